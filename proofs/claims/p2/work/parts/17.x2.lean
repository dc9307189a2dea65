theorem dX7_put_0 : decode cX7_put 0 = .ok (.bipush 24, 2) := by decide +kernel
theorem dX7_put_11 : decode cX7_put 11 = .ok (.aload_n 0, 1) := by decide +kernel
theorem dX7_put_12 : decode cX7_put 12 = .ok (.getfield 9, 3) := by decide +kernel
theorem dX7_put_15 : decode cX7_put 15 = .ok (.arraylength, 1) := by decide +kernel
theorem dX7_put_16 : decode cX7_put 16 = .ok (.if_icmp .ge 32, 3) := by decide +kernel
theorem dX7_put_19 : decode cX7_put 19 = .ok (.aload_n 0, 1) := by decide +kernel
theorem dX7_put_2 : decode cX7_put 2 = .ok (.istore_n 2, 1) := by decide +kernel
theorem dX7_put_20 : decode cX7_put 20 = .ok (.getfield 9, 3) := by decide +kernel
theorem dX7_put_23 : decode cX7_put 23 = .ok (.aload_n 0, 1) := by decide +kernel
theorem dX7_put_24 : decode cX7_put 24 = .ok (.getfield 15, 3) := by decide +kernel
theorem dX7_put_27 : decode cX7_put 27 = .ok (.iload_n 1, 1) := by decide +kernel
theorem dX7_put_28 : decode cX7_put 28 = .ok (.iload_n 2, 1) := by decide +kernel
theorem dX7_put_29 : decode cX7_put 29 = .ok (.ishr, 1) := by decide +kernel
theorem dX7_put_3 : decode cX7_put 3 = .ok (.iload_n 2, 1) := by decide +kernel
theorem dX7_put_30 : decode cX7_put 30 = .ok (.i2b, 1) := by decide +kernel
theorem dX7_put_31 : decode cX7_put 31 = .ok (.bastore, 1) := by decide +kernel
theorem dX7_put_32 : decode cX7_put 32 = .ok (.aload_n 0, 1) := by decide +kernel
theorem dX7_put_33 : decode cX7_put 33 = .ok (.dup, 1) := by decide +kernel
theorem dX7_put_34 : decode cX7_put 34 = .ok (.getfield 15, 3) := by decide +kernel
theorem dX7_put_37 : decode cX7_put 37 = .ok (.iconst 1, 1) := by decide +kernel
theorem dX7_put_38 : decode cX7_put 38 = .ok (.iadd, 1) := by decide +kernel
theorem dX7_put_39 : decode cX7_put 39 = .ok (.putfield 15, 3) := by decide +kernel
theorem dX7_put_4 : decode cX7_put 4 = .ok (.ifCond .lt 44, 3) := by decide +kernel
theorem dX7_put_42 : decode cX7_put 42 = .ok (.iinc 2 (-8), 3) := by decide +kernel
theorem dX7_put_45 : decode cX7_put 45 = .ok (.goto (-42), 3) := by decide +kernel
theorem dX7_put_48 : decode cX7_put 48 = .ok (.return_, 1) := by decide +kernel
theorem dX7_put_7 : decode cX7_put 7 = .ok (.aload_n 0, 1) := by decide +kernel
theorem dX7_put_8 : decode cX7_put 8 = .ok (.getfield 15, 3) := by decide +kernel
def vX7_put : List Cond := .code yX7_put cX7_put 3 none :: ([.fieldLink RX7 15 "HookPier$Reader" "fed" "I", .fieldLink RX7 9 "HookPier$Reader" "text" "[B"] ++ wsX70)
theorem iX7_put_X7 : ∀ w ∈ wsX70, w ∈ vX7_put := fun _ h => List.mem_cons_of_mem _ (List.mem_append_right _ h)
set_option maxHeartbeats 2000000 in
set_option maxRecDepth 100000 in
theorem kX7_put (l : Launch) (dC : Nat → ClassId) (dI : Nat → Nat → Nat) (a0 : Nat) (k1 : Int32) (a2 : Nat) (k3 : Int32) (g4 : Value) (g5 : Value) (g6 : Value) (g7 : Value) (g8 : Value) (g9 : Value) (g10 : Value) (g11 : Value) (g12 : Value) (g13 : Value) (cB14 : ClassId) (f15 : Nat → Int32) (hk3 : (0 ≤ k3.toInt ∧ k3.toInt ≤ 896)) (sz : Nat) : Met l yX7_put vX7_put ({ frames := 0, cells := 0, slots := 0, locals := 0 }) (PC (dC, dI) [.ref a0, .int k1] sz [(a0, .inr (5, [.ref a2, .int k3, g4, g5, g6, g7, g8, g9, g10, g11, g12, g13])), (a2, .inl (cB14, 900, .inl f15))] [(cB14, .byte)]) (va_Qv (S := Int32 × (Nat → Int32)) (fun u => (4 ≤ (u.1).toInt ∧ (u.1).toInt ≤ 900) ∧ ((u.1).toInt = k3.toInt + 4)) (fun u t => BC (dC, dI) (va_A [(a0, .inr (5, [.ref a2, .int k3, g4, g5, g6, g7, g8, g9, g10, g11, g12, g13])), (a2, .inl (cB14, 900, .inl f15))] sz) [(a0, .inr (5, [.ref a2, .int (u.1), g4, g5, g6, g7, g8, g9, g10, g11, g12, g13])), (a2, .inl (cB14, 900, .inl (u.2)))] [] t) (va_A [(a0, .inr (5, [.ref a2, .int k3, g4, g5, g6, g7, g8, g9, g10, g11, g12, g13])), (a2, .inl (cB14, 900, .inl f15))] sz)) 0 0 (va_A [(a0, .inr (5, [.ref a2, .int k3, g4, g5, g6, g7, g8, g9, g10, g11, g12, g13])), (a2, .inl (cB14, 900, .inl f15))] sz) := by
  refine Met.ofW (cc := cX7_put) (maxL := 3) (ret := none) (by decide) rfl ?_
  intro p e s m args below meth c s₁ B hml hv
  obtain ⟨rfl, hsz, hP, hK, hD0, hN⟩ := hv
  have hx := B.exec
  have hb := B.bytes
  have hr := B.returns
  have hts := atoms_spec (ws := vX7_put) B.pre
  have hown : s.vm.findClass RX7 = some m.cls := findClass_of_methodNamed B.named
  have hlocks := B.notSynchronized
  subst hsz
  have hD := hD0.self (sz := s.heap.size)
  generalize hAe : va_A [(a0, .inr (5, [.ref a2, .int k3, g4, g5, g6, g7, g8, g9, g10, g11, g12, g13])), (a2, .inl (cB14, 900, .inl f15))] s.heap.size = A at hD ⊢
  have hA : ∀ q : Nat, s.heap.size ≤ q → A q := fun q h => by rw [← hAe]; exact Or.inr h
  have hS : va_S A s.heap s.heap [] := va_S.rf
  have hP : va_P (dC, dI) vwCl [(a0, .inr (5, [.ref a2, .int k3, g4, g5, g6, g7, g8, g9, g10, g11, g12, g13])), (a2, .inl (cB14, 900, .inl f15))] s.heap := hP
  have hl := lv_entry ([.ref a0, .int k1]) (n := 3) (Nat.le_of_ble_eq_true rfl)
  rw [lg_entry_eq]
  generalize (lg_sl ([.ref a0, .int k1]) ++ List.replicate (3 - (lg_sl ([.ref a0, .int k1])).length) Slot.unset).toArray = ls at hl ⊢
  have hl : lv_has ls 3 [(0, .ref a0), (1, .int k1)] := hl
  refine lv_bipush (v := 24) hx hb dX7_put_0 (by decide) ?_
  refine lv_istore_n (lv' := [(2, .int 24), (0, .ref a0), (1, .int k1)]) hx hb dX7_put_2 rfl hl (by decide) rfl (fun ls hl => ?_)
  refine lv_iload_n hx hb dX7_put_3 rfl (lv_at hl 0 rfl) ?_
  refine lv_if_lt (tgt := 48) hx hb dX7_put_4 (by decide) (fun c1 => absurd c1 (by decide)) (fun _ => ?_)
  refine lv_aload_n hx hb dX7_put_7 rfl (lv_at hl 1 rfl) ?_
  refine va_get (D := (dC, dI)) (ci := 5) (v := .int k3) (C := RX7) (T := TX7) (N := 12) hx hb hts iX7_put_X7 hown hK hP 0 rfl rfl 1 (by decide) (hts (.fieldLink RX7 15 "HookPier$Reader" "fed" "I") (List.mem_of_getElem? (i := 1) rfl)) (fun _ h9 => h9) rfl dX7_put_8 ?_
  refine lv_aload_n hx hb dX7_put_11 rfl (lv_at hl 1 rfl) ?_
  refine va_get (D := (dC, dI)) (ci := 5) (v := .ref a2) (C := RX7) (T := TX7) (N := 12) hx hb hts iX7_put_X7 hown hK hP 0 rfl rfl 0 (by decide) (hts (.fieldLink RX7 9 "HookPier$Reader" "text" "[B") (List.mem_of_getElem? (i := 2) rfl)) (fun _ h9 => h9) rfl dX7_put_12 ?_
  refine va_alen (v := 900) hx hb hK hP 1 0 rfl rfl rfl dX7_put_15 ?_
  refine lv_icmp_ge (tgt := 48) hx hb dX7_put_16 (by decide) (fun c2 => False.elim (by simp only [fa_lt, fa_le, fa_eq, ltv_0, ltv_900] at c2; omega)) (fun _ => ?_)
  refine lv_aload_n hx hb dX7_put_19 rfl (lv_at hl 1 rfl) ?_
  refine va_get (D := (dC, dI)) (ci := 5) (v := .ref a2) (C := RX7) (T := TX7) (N := 12) hx hb hts iX7_put_X7 hown hK hP 0 rfl rfl 0 (by decide) (hts (.fieldLink RX7 9 "HookPier$Reader" "text" "[B") (List.mem_of_getElem? (i := 2) rfl)) (fun _ h9 => h9) rfl dX7_put_20 ?_
  refine lv_aload_n hx hb dX7_put_23 rfl (lv_at hl 1 rfl) ?_
  refine va_get (D := (dC, dI)) (ci := 5) (v := .int k3) (C := RX7) (T := TX7) (N := 12) hx hb hts iX7_put_X7 hown hK hP 0 rfl rfl 1 (by decide) (hts (.fieldLink RX7 15 "HookPier$Reader" "fed" "I") (List.mem_of_getElem? (i := 1) rfl)) (fun _ h9 => h9) rfl dX7_put_24 ?_
  refine lv_iload_n hx hb dX7_put_27 rfl (lv_at hl 2 rfl) ?_
  refine lv_iload_n hx hb dX7_put_28 rfl (lv_at hl 0 rfl) ?_
  refine lv_ishr hx hb dX7_put_29 ?_
  refine lv_topi (fun z3 ez3 => ?_)
  clear ez3
  refine lv_i2b hx hb dX7_put_30 rfl ?_
  refine lv_topi (fun z4 ez4 => ?_)
  clear ez4
  refine va_bast hx hb hK hP hD hS 1 0 rfl rfl (vp_in_iff.mpr (by omega)) dX7_put_31 (fun H locs hP hD hS => ?_)
  have hP : va_P (dC, dI) vwCl [(a0, .inr (5, [.ref a2, .int k3, g4, g5, g6, g7, g8, g9, g10, g11, g12, g13])), (a2, .inl (cB14, 900, .inl (upd f15 (k3 : Int32).toNatClampNeg (vp_nar .byte z4))))] H := hP
  have hD : va_D A [(a0, .inr (5, [.ref a2, .int k3, g4, g5, g6, g7, g8, g9, g10, g11, g12, g13])), (a2, .inl (cB14, 900, .inl (upd f15 (k3 : Int32).toNatClampNeg (vp_nar .byte z4))))] := hD
  generalize upd f15 (k3 : Int32).toNatClampNeg (vp_nar .byte z4) = f5 at hP hD
  refine lv_aload_n hx hb dX7_put_32 rfl (lv_at hl 1 rfl) ?_
  refine lv_dup hx hb dX7_put_33 rfl ?_
  refine va_get (D := (dC, dI)) (ci := 5) (v := .int k3) (C := RX7) (T := TX7) (N := 12) hx hb hts iX7_put_X7 hown hK hP 0 rfl rfl 1 (by decide) (hts (.fieldLink RX7 15 "HookPier$Reader" "fed" "I") (List.mem_of_getElem? (i := 1) rfl)) (fun _ h9 => h9) rfl dX7_put_34 ?_
  refine lv_iconst (v := 1) hx hb dX7_put_37 (by decide) ?_
  refine lv_iadd hx hb dX7_put_38 ?_
  refine lv_topi (fun z6 ez6 => ?_)
  have tz6 : z6.toInt = k3.toInt + 1 := by rw [ez6]; rw [iadd_t (by first | omega | (simp only [ltv_0, ltv_1]; omega)) (by first | omega | (simp only [ltv_0, ltv_1]; omega))]; first | done | (simp only [ltv_0, ltv_1])
  refine va_put (D := (dC, dI)) (ci := 5) (v := .int z6) (ty := .int) (C := RX7) (T := TX7) (N := 12) hx hb hts iX7_put_X7 tyX7 tyX7_ok nmX7 hown hK hP hD hS 0 rfl rfl 1 (by decide) (hts (.fieldLink RX7 15 "HookPier$Reader" "fed" "I") (List.mem_of_getElem? (i := 1) rfl)) (fun _ h9 => h9) rfl (by decide +kernel) rfl rfl (Nat.le_of_ble_eq_true rfl) dX7_put_39 (fun H locs hP hD hS => ?_)
  have hP : va_P (dC, dI) vwCl [(a0, .inr (5, [.ref a2, .int z6, g4, g5, g6, g7, g8, g9, g10, g11, g12, g13])), (a2, .inl (cB14, 900, .inl f5))] H := hP
  have hD : va_D A [(a0, .inr (5, [.ref a2, .int z6, g4, g5, g6, g7, g8, g9, g10, g11, g12, g13])), (a2, .inl (cB14, 900, .inl f5))] := hD
  refine lv_iinc (v := 16) (lv' := [(2, .int 16), (0, .ref a0), (1, .int k1)]) hx hb dX7_put_42 hl (k := 0) rfl (by decide) (by decide) rfl (fun ls hl => ?_)
  refine lv_goto (tgt := 3) hx hb dX7_put_45 (by decide) ?_
  refine lv_iload_n hx hb dX7_put_3 rfl (lv_at hl 0 rfl) ?_
  refine lv_if_lt (tgt := 48) hx hb dX7_put_4 (by decide) (fun c7 => absurd c7 (by decide)) (fun _ => ?_)
  refine lv_aload_n hx hb dX7_put_7 rfl (lv_at hl 1 rfl) ?_
  refine va_get (D := (dC, dI)) (ci := 5) (v := .int z6) (C := RX7) (T := TX7) (N := 12) hx hb hts iX7_put_X7 hown hK hP 0 rfl rfl 1 (by decide) (hts (.fieldLink RX7 15 "HookPier$Reader" "fed" "I") (List.mem_of_getElem? (i := 1) rfl)) (fun _ h9 => h9) rfl dX7_put_8 ?_
  refine lv_aload_n hx hb dX7_put_11 rfl (lv_at hl 1 rfl) ?_
  refine va_get (D := (dC, dI)) (ci := 5) (v := .ref a2) (C := RX7) (T := TX7) (N := 12) hx hb hts iX7_put_X7 hown hK hP 0 rfl rfl 0 (by decide) (hts (.fieldLink RX7 9 "HookPier$Reader" "text" "[B") (List.mem_of_getElem? (i := 2) rfl)) (fun _ h9 => h9) rfl dX7_put_12 ?_
  refine va_alen (v := 900) hx hb hK hP 1 0 rfl rfl rfl dX7_put_15 ?_
  refine lv_icmp_ge (tgt := 48) hx hb dX7_put_16 (by decide) (fun c8 => False.elim (by simp only [fa_lt, fa_le, fa_eq, ltv_0, ltv_900] at c8; omega)) (fun _ => ?_)
  refine lv_aload_n hx hb dX7_put_19 rfl (lv_at hl 1 rfl) ?_
  refine va_get (D := (dC, dI)) (ci := 5) (v := .ref a2) (C := RX7) (T := TX7) (N := 12) hx hb hts iX7_put_X7 hown hK hP 0 rfl rfl 0 (by decide) (hts (.fieldLink RX7 9 "HookPier$Reader" "text" "[B") (List.mem_of_getElem? (i := 2) rfl)) (fun _ h9 => h9) rfl dX7_put_20 ?_
  refine lv_aload_n hx hb dX7_put_23 rfl (lv_at hl 1 rfl) ?_
  refine va_get (D := (dC, dI)) (ci := 5) (v := .int z6) (C := RX7) (T := TX7) (N := 12) hx hb hts iX7_put_X7 hown hK hP 0 rfl rfl 1 (by decide) (hts (.fieldLink RX7 15 "HookPier$Reader" "fed" "I") (List.mem_of_getElem? (i := 1) rfl)) (fun _ h9 => h9) rfl dX7_put_24 ?_
  refine lv_iload_n hx hb dX7_put_27 rfl (lv_at hl 2 rfl) ?_
  refine lv_iload_n hx hb dX7_put_28 rfl (lv_at hl 0 rfl) ?_
  refine lv_ishr hx hb dX7_put_29 ?_
  refine lv_topi (fun z9 ez9 => ?_)
  clear ez9
  refine lv_i2b hx hb dX7_put_30 rfl ?_
  refine lv_topi (fun z10 ez10 => ?_)
  clear ez10
  refine va_bast hx hb hK hP hD hS 1 0 rfl rfl (vp_in_iff.mpr (by omega)) dX7_put_31 (fun H locs hP hD hS => ?_)
  have hP : va_P (dC, dI) vwCl [(a0, .inr (5, [.ref a2, .int z6, g4, g5, g6, g7, g8, g9, g10, g11, g12, g13])), (a2, .inl (cB14, 900, .inl (upd f5 (z6 : Int32).toNatClampNeg (vp_nar .byte z10))))] H := hP
  have hD : va_D A [(a0, .inr (5, [.ref a2, .int z6, g4, g5, g6, g7, g8, g9, g10, g11, g12, g13])), (a2, .inl (cB14, 900, .inl (upd f5 (z6 : Int32).toNatClampNeg (vp_nar .byte z10))))] := hD
  generalize upd f5 (z6 : Int32).toNatClampNeg (vp_nar .byte z10) = f11 at hP hD
  refine lv_aload_n hx hb dX7_put_32 rfl (lv_at hl 1 rfl) ?_
  refine lv_dup hx hb dX7_put_33 rfl ?_
  refine va_get (D := (dC, dI)) (ci := 5) (v := .int z6) (C := RX7) (T := TX7) (N := 12) hx hb hts iX7_put_X7 hown hK hP 0 rfl rfl 1 (by decide) (hts (.fieldLink RX7 15 "HookPier$Reader" "fed" "I") (List.mem_of_getElem? (i := 1) rfl)) (fun _ h9 => h9) rfl dX7_put_34 ?_
  refine lv_iconst (v := 1) hx hb dX7_put_37 (by decide) ?_
  refine lv_iadd hx hb dX7_put_38 ?_
  refine lv_topi (fun z12 ez12 => ?_)
  have tz12 : z12.toInt = z6.toInt + 1 := by rw [ez12]; rw [iadd_t (by first | omega | (simp only [ltv_0, ltv_1]; omega)) (by first | omega | (simp only [ltv_0, ltv_1]; omega))]; first | done | (simp only [ltv_0, ltv_1])
  refine va_put (D := (dC, dI)) (ci := 5) (v := .int z12) (ty := .int) (C := RX7) (T := TX7) (N := 12) hx hb hts iX7_put_X7 tyX7 tyX7_ok nmX7 hown hK hP hD hS 0 rfl rfl 1 (by decide) (hts (.fieldLink RX7 15 "HookPier$Reader" "fed" "I") (List.mem_of_getElem? (i := 1) rfl)) (fun _ h9 => h9) rfl (by decide +kernel) rfl rfl (Nat.le_of_ble_eq_true rfl) dX7_put_39 (fun H locs hP hD hS => ?_)
  have hP : va_P (dC, dI) vwCl [(a0, .inr (5, [.ref a2, .int z12, g4, g5, g6, g7, g8, g9, g10, g11, g12, g13])), (a2, .inl (cB14, 900, .inl f11))] H := hP
  have hD : va_D A [(a0, .inr (5, [.ref a2, .int z12, g4, g5, g6, g7, g8, g9, g10, g11, g12, g13])), (a2, .inl (cB14, 900, .inl f11))] := hD
  refine lv_iinc (v := 8) (lv' := [(2, .int 8), (0, .ref a0), (1, .int k1)]) hx hb dX7_put_42 hl (k := 0) rfl (by decide) (by decide) rfl (fun ls hl => ?_)
  refine lv_goto (tgt := 3) hx hb dX7_put_45 (by decide) ?_
  refine lv_iload_n hx hb dX7_put_3 rfl (lv_at hl 0 rfl) ?_
  refine lv_if_lt (tgt := 48) hx hb dX7_put_4 (by decide) (fun c13 => absurd c13 (by decide)) (fun _ => ?_)
  refine lv_aload_n hx hb dX7_put_7 rfl (lv_at hl 1 rfl) ?_
  refine va_get (D := (dC, dI)) (ci := 5) (v := .int z12) (C := RX7) (T := TX7) (N := 12) hx hb hts iX7_put_X7 hown hK hP 0 rfl rfl 1 (by decide) (hts (.fieldLink RX7 15 "HookPier$Reader" "fed" "I") (List.mem_of_getElem? (i := 1) rfl)) (fun _ h9 => h9) rfl dX7_put_8 ?_
  refine lv_aload_n hx hb dX7_put_11 rfl (lv_at hl 1 rfl) ?_
  refine va_get (D := (dC, dI)) (ci := 5) (v := .ref a2) (C := RX7) (T := TX7) (N := 12) hx hb hts iX7_put_X7 hown hK hP 0 rfl rfl 0 (by decide) (hts (.fieldLink RX7 9 "HookPier$Reader" "text" "[B") (List.mem_of_getElem? (i := 2) rfl)) (fun _ h9 => h9) rfl dX7_put_12 ?_
  refine va_alen (v := 900) hx hb hK hP 1 0 rfl rfl rfl dX7_put_15 ?_
  refine lv_icmp_ge (tgt := 48) hx hb dX7_put_16 (by decide) (fun c14 => False.elim (by simp only [fa_lt, fa_le, fa_eq, ltv_0, ltv_900] at c14; omega)) (fun _ => ?_)
  refine lv_aload_n hx hb dX7_put_19 rfl (lv_at hl 1 rfl) ?_
  refine va_get (D := (dC, dI)) (ci := 5) (v := .ref a2) (C := RX7) (T := TX7) (N := 12) hx hb hts iX7_put_X7 hown hK hP 0 rfl rfl 0 (by decide) (hts (.fieldLink RX7 9 "HookPier$Reader" "text" "[B") (List.mem_of_getElem? (i := 2) rfl)) (fun _ h9 => h9) rfl dX7_put_20 ?_
  refine lv_aload_n hx hb dX7_put_23 rfl (lv_at hl 1 rfl) ?_
  refine va_get (D := (dC, dI)) (ci := 5) (v := .int z12) (C := RX7) (T := TX7) (N := 12) hx hb hts iX7_put_X7 hown hK hP 0 rfl rfl 1 (by decide) (hts (.fieldLink RX7 15 "HookPier$Reader" "fed" "I") (List.mem_of_getElem? (i := 1) rfl)) (fun _ h9 => h9) rfl dX7_put_24 ?_
  refine lv_iload_n hx hb dX7_put_27 rfl (lv_at hl 2 rfl) ?_
  refine lv_iload_n hx hb dX7_put_28 rfl (lv_at hl 0 rfl) ?_
  refine lv_ishr hx hb dX7_put_29 ?_
  refine lv_topi (fun z15 ez15 => ?_)
  clear ez15
  refine lv_i2b hx hb dX7_put_30 rfl ?_
  refine lv_topi (fun z16 ez16 => ?_)
  clear ez16
  refine va_bast hx hb hK hP hD hS 1 0 rfl rfl (vp_in_iff.mpr (by omega)) dX7_put_31 (fun H locs hP hD hS => ?_)
  have hP : va_P (dC, dI) vwCl [(a0, .inr (5, [.ref a2, .int z12, g4, g5, g6, g7, g8, g9, g10, g11, g12, g13])), (a2, .inl (cB14, 900, .inl (upd f11 (z12 : Int32).toNatClampNeg (vp_nar .byte z16))))] H := hP
  have hD : va_D A [(a0, .inr (5, [.ref a2, .int z12, g4, g5, g6, g7, g8, g9, g10, g11, g12, g13])), (a2, .inl (cB14, 900, .inl (upd f11 (z12 : Int32).toNatClampNeg (vp_nar .byte z16))))] := hD
  generalize upd f11 (z12 : Int32).toNatClampNeg (vp_nar .byte z16) = f17 at hP hD
  refine lv_aload_n hx hb dX7_put_32 rfl (lv_at hl 1 rfl) ?_
  refine lv_dup hx hb dX7_put_33 rfl ?_
  refine va_get (D := (dC, dI)) (ci := 5) (v := .int z12) (C := RX7) (T := TX7) (N := 12) hx hb hts iX7_put_X7 hown hK hP 0 rfl rfl 1 (by decide) (hts (.fieldLink RX7 15 "HookPier$Reader" "fed" "I") (List.mem_of_getElem? (i := 1) rfl)) (fun _ h9 => h9) rfl dX7_put_34 ?_
  refine lv_iconst (v := 1) hx hb dX7_put_37 (by decide) ?_
  refine lv_iadd hx hb dX7_put_38 ?_
  refine lv_topi (fun z18 ez18 => ?_)
  have tz18 : z18.toInt = z12.toInt + 1 := by rw [ez18]; rw [iadd_t (by first | omega | (simp only [ltv_0, ltv_1]; omega)) (by first | omega | (simp only [ltv_0, ltv_1]; omega))]; first | done | (simp only [ltv_0, ltv_1])
  refine va_put (D := (dC, dI)) (ci := 5) (v := .int z18) (ty := .int) (C := RX7) (T := TX7) (N := 12) hx hb hts iX7_put_X7 tyX7 tyX7_ok nmX7 hown hK hP hD hS 0 rfl rfl 1 (by decide) (hts (.fieldLink RX7 15 "HookPier$Reader" "fed" "I") (List.mem_of_getElem? (i := 1) rfl)) (fun _ h9 => h9) rfl (by decide +kernel) rfl rfl (Nat.le_of_ble_eq_true rfl) dX7_put_39 (fun H locs hP hD hS => ?_)
  have hP : va_P (dC, dI) vwCl [(a0, .inr (5, [.ref a2, .int z18, g4, g5, g6, g7, g8, g9, g10, g11, g12, g13])), (a2, .inl (cB14, 900, .inl f17))] H := hP
  have hD : va_D A [(a0, .inr (5, [.ref a2, .int z18, g4, g5, g6, g7, g8, g9, g10, g11, g12, g13])), (a2, .inl (cB14, 900, .inl f17))] := hD
  refine lv_iinc (v := 0) (lv' := [(2, .int 0), (0, .ref a0), (1, .int k1)]) hx hb dX7_put_42 hl (k := 0) rfl (by decide) (by decide) rfl (fun ls hl => ?_)
  refine lv_goto (tgt := 3) hx hb dX7_put_45 (by decide) ?_
  refine lv_iload_n hx hb dX7_put_3 rfl (lv_at hl 0 rfl) ?_
  refine lv_if_lt (tgt := 48) hx hb dX7_put_4 (by decide) (fun c19 => absurd c19 (by decide)) (fun _ => ?_)
  refine lv_aload_n hx hb dX7_put_7 rfl (lv_at hl 1 rfl) ?_
  refine va_get (D := (dC, dI)) (ci := 5) (v := .int z18) (C := RX7) (T := TX7) (N := 12) hx hb hts iX7_put_X7 hown hK hP 0 rfl rfl 1 (by decide) (hts (.fieldLink RX7 15 "HookPier$Reader" "fed" "I") (List.mem_of_getElem? (i := 1) rfl)) (fun _ h9 => h9) rfl dX7_put_8 ?_
  refine lv_aload_n hx hb dX7_put_11 rfl (lv_at hl 1 rfl) ?_
  refine va_get (D := (dC, dI)) (ci := 5) (v := .ref a2) (C := RX7) (T := TX7) (N := 12) hx hb hts iX7_put_X7 hown hK hP 0 rfl rfl 0 (by decide) (hts (.fieldLink RX7 9 "HookPier$Reader" "text" "[B") (List.mem_of_getElem? (i := 2) rfl)) (fun _ h9 => h9) rfl dX7_put_12 ?_
  refine va_alen (v := 900) hx hb hK hP 1 0 rfl rfl rfl dX7_put_15 ?_
  refine lv_icmp_ge (tgt := 48) hx hb dX7_put_16 (by decide) (fun c20 => False.elim (by simp only [fa_lt, fa_le, fa_eq, ltv_0, ltv_900] at c20; omega)) (fun _ => ?_)
  refine lv_aload_n hx hb dX7_put_19 rfl (lv_at hl 1 rfl) ?_
  refine va_get (D := (dC, dI)) (ci := 5) (v := .ref a2) (C := RX7) (T := TX7) (N := 12) hx hb hts iX7_put_X7 hown hK hP 0 rfl rfl 0 (by decide) (hts (.fieldLink RX7 9 "HookPier$Reader" "text" "[B") (List.mem_of_getElem? (i := 2) rfl)) (fun _ h9 => h9) rfl dX7_put_20 ?_
  refine lv_aload_n hx hb dX7_put_23 rfl (lv_at hl 1 rfl) ?_
  refine va_get (D := (dC, dI)) (ci := 5) (v := .int z18) (C := RX7) (T := TX7) (N := 12) hx hb hts iX7_put_X7 hown hK hP 0 rfl rfl 1 (by decide) (hts (.fieldLink RX7 15 "HookPier$Reader" "fed" "I") (List.mem_of_getElem? (i := 1) rfl)) (fun _ h9 => h9) rfl dX7_put_24 ?_
  refine lv_iload_n hx hb dX7_put_27 rfl (lv_at hl 2 rfl) ?_
  refine lv_iload_n hx hb dX7_put_28 rfl (lv_at hl 0 rfl) ?_
  refine lv_ishr hx hb dX7_put_29 ?_
  refine lv_topi (fun z21 ez21 => ?_)
  clear ez21
  refine lv_i2b hx hb dX7_put_30 rfl ?_
  refine lv_topi (fun z22 ez22 => ?_)
  clear ez22
  refine va_bast hx hb hK hP hD hS 1 0 rfl rfl (vp_in_iff.mpr (by omega)) dX7_put_31 (fun H locs hP hD hS => ?_)
  have hP : va_P (dC, dI) vwCl [(a0, .inr (5, [.ref a2, .int z18, g4, g5, g6, g7, g8, g9, g10, g11, g12, g13])), (a2, .inl (cB14, 900, .inl (upd f17 (z18 : Int32).toNatClampNeg (vp_nar .byte z22))))] H := hP
  have hD : va_D A [(a0, .inr (5, [.ref a2, .int z18, g4, g5, g6, g7, g8, g9, g10, g11, g12, g13])), (a2, .inl (cB14, 900, .inl (upd f17 (z18 : Int32).toNatClampNeg (vp_nar .byte z22))))] := hD
  generalize upd f17 (z18 : Int32).toNatClampNeg (vp_nar .byte z22) = f23 at hP hD
  refine lv_aload_n hx hb dX7_put_32 rfl (lv_at hl 1 rfl) ?_
  refine lv_dup hx hb dX7_put_33 rfl ?_
  refine va_get (D := (dC, dI)) (ci := 5) (v := .int z18) (C := RX7) (T := TX7) (N := 12) hx hb hts iX7_put_X7 hown hK hP 0 rfl rfl 1 (by decide) (hts (.fieldLink RX7 15 "HookPier$Reader" "fed" "I") (List.mem_of_getElem? (i := 1) rfl)) (fun _ h9 => h9) rfl dX7_put_34 ?_
  refine lv_iconst (v := 1) hx hb dX7_put_37 (by decide) ?_
  refine lv_iadd hx hb dX7_put_38 ?_
  refine lv_topi (fun z24 ez24 => ?_)
  have tz24 : z24.toInt = z18.toInt + 1 := by rw [ez24]; rw [iadd_t (by first | omega | (simp only [ltv_0, ltv_1]; omega)) (by first | omega | (simp only [ltv_0, ltv_1]; omega))]; first | done | (simp only [ltv_0, ltv_1])
  refine va_put (D := (dC, dI)) (ci := 5) (v := .int z24) (ty := .int) (C := RX7) (T := TX7) (N := 12) hx hb hts iX7_put_X7 tyX7 tyX7_ok nmX7 hown hK hP hD hS 0 rfl rfl 1 (by decide) (hts (.fieldLink RX7 15 "HookPier$Reader" "fed" "I") (List.mem_of_getElem? (i := 1) rfl)) (fun _ h9 => h9) rfl (by decide +kernel) rfl rfl (Nat.le_of_ble_eq_true rfl) dX7_put_39 (fun H locs hP hD hS => ?_)
  have hP : va_P (dC, dI) vwCl [(a0, .inr (5, [.ref a2, .int z24, g4, g5, g6, g7, g8, g9, g10, g11, g12, g13])), (a2, .inl (cB14, 900, .inl f23))] H := hP
  have hD : va_D A [(a0, .inr (5, [.ref a2, .int z24, g4, g5, g6, g7, g8, g9, g10, g11, g12, g13])), (a2, .inl (cB14, 900, .inl f23))] := hD
  refine lv_iinc (v := (-8)) (lv' := [(2, .int (-8)), (0, .ref a0), (1, .int k1)]) hx hb dX7_put_42 hl (k := 0) rfl (by decide) (by decide) rfl (fun ls hl => ?_)
  refine lv_goto (tgt := 3) hx hb dX7_put_45 (by decide) ?_
  refine lv_iload_n hx hb dX7_put_3 rfl (lv_at hl 0 rfl) ?_
  refine lv_if_lt (tgt := 48) hx hb dX7_put_4 (by decide) (fun _ => ?_) (fun c25 => absurd c25 (by decide))
  have hP9 := hP.sub (ws' := [(a0, .inr (5, [.ref a2, .int z24, g4, g5, g6, g7, g8, g9, g10, g11, g12, g13])), (a2, .inl (cB14, 900, .inl f23))]) [0, 1] rfl
  have hD9 := hD.sub (ws' := [(a0, .inr (5, [.ref a2, .int z24, g4, g5, g6, g7, g8, g9, g10, g11, g12, g13])), (a2, .inl (cB14, 900, .inl f23))]) [0, 1] (by decide) rfl
  have hK9 := hK.sub (tys' := []) [] rfl
  exact W.vret hx hb hr (fun t ht hW => ⟨⟨(z24, f23), rfl, ⟨(by first | trivial | omega | (simp only [ltv_0]; omega)), (by first | trivial | omega | (simp only [ltv_0]; omega))⟩, by rw [ht]; exact hP9, va_K.moved hW.alike hK9, hD9⟩, hS.F ht⟩) hS.2.2 dX7_put_48
theorem dX10_feed_0 : decode cX10_feed 0 = .ok (.aload_n 0, 1) := by decide +kernel
theorem dX10_feed_1 : decode cX10_feed 1 = .ok (.getfield 22, 3) := by decide +kernel
theorem dX10_feed_10 : decode cX10_feed 10 = .ok (.sipush 900, 3) := by decide +kernel
theorem dX10_feed_13 : decode cX10_feed 13 = .ok (.if_icmp .le 5, 3) := by decide +kernel
theorem dX10_feed_18 : decode cX10_feed 18 = .ok (.aload_n 0, 1) := by decide +kernel
theorem dX10_feed_19 : decode cX10_feed 19 = .ok (.getfield 22, 3) := by decide +kernel
theorem dX10_feed_22 : decode cX10_feed 22 = .ok (.iload_n 1, 1) := by decide +kernel
theorem dX10_feed_23 : decode cX10_feed 23 = .ok (.invokevirtual 71, 3) := by decide +kernel
theorem dX10_feed_26 : decode cX10_feed 26 = .ok (.aload_n 0, 1) := by decide +kernel
theorem dX10_feed_27 : decode cX10_feed 27 = .ok (.getfield 22, 3) := by decide +kernel
theorem dX10_feed_30 : decode cX10_feed 30 = .ok (.iload_n 2, 1) := by decide +kernel
theorem dX10_feed_31 : decode cX10_feed 31 = .ok (.invokevirtual 71, 3) := by decide +kernel
theorem dX10_feed_34 : decode cX10_feed 34 = .ok (.aload_n 0, 1) := by decide +kernel
theorem dX10_feed_35 : decode cX10_feed 35 = .ok (.getfield 22, 3) := by decide +kernel
theorem dX10_feed_38 : decode cX10_feed 38 = .ok (.iload_n 3, 1) := by decide +kernel
theorem dX10_feed_39 : decode cX10_feed 39 = .ok (.invokevirtual 71, 3) := by decide +kernel
theorem dX10_feed_4 : decode cX10_feed 4 = .ok (.getfield 68, 3) := by decide +kernel
theorem dX10_feed_42 : decode cX10_feed 42 = .ok (.aload_n 0, 1) := by decide +kernel
theorem dX10_feed_43 : decode cX10_feed 43 = .ok (.getfield 22, 3) := by decide +kernel
theorem dX10_feed_46 : decode cX10_feed 46 = .ok (.iload 4, 2) := by decide +kernel
theorem dX10_feed_48 : decode cX10_feed 48 = .ok (.invokevirtual 71, 3) := by decide +kernel
theorem dX10_feed_51 : decode cX10_feed 51 = .ok (.aload_n 0, 1) := by decide +kernel
theorem dX10_feed_52 : decode cX10_feed 52 = .ok (.getfield 22, 3) := by decide +kernel
theorem dX10_feed_55 : decode cX10_feed 55 = .ok (.iload 5, 2) := by decide +kernel
theorem dX10_feed_57 : decode cX10_feed 57 = .ok (.invokevirtual 71, 3) := by decide +kernel
theorem dX10_feed_60 : decode cX10_feed 60 = .ok (.aload_n 0, 1) := by decide +kernel
theorem dX10_feed_61 : decode cX10_feed 61 = .ok (.getfield 22, 3) := by decide +kernel
theorem dX10_feed_64 : decode cX10_feed 64 = .ok (.getfield 68, 3) := by decide +kernel
theorem dX10_feed_67 : decode cX10_feed 67 = .ok (.ireturn, 1) := by decide +kernel
theorem dX10_feed_7 : decode cX10_feed 7 = .ok (.bipush 20, 2) := by decide +kernel
theorem dX10_feed_9 : decode cX10_feed 9 = .ok (.iadd, 1) := by decide +kernel
def vX10_feed_lo : List Cond := .code yX10_feed cX10_feed 6 (some .int) :: ([.fieldLink RX10 22 "HookPier" "reader" "LHookPier$Reader;", .fieldLink RX10 68 "HookPier$Reader" "fed" "I", .methodLink RX10 71 yX7_put, .instanceMethod yX7_put, .selects RX7 yX7_put yX7_put, .initialized RX7, .code yX7_put cX7_put 3 none, .fieldLink RX7 15 "HookPier$Reader" "fed" "I", .fieldLink RX7 9 "HookPier$Reader" "text" "[B"] ++ wsX100 ++ wsX70)
theorem iX10_feed_lo_X10 : ∀ w ∈ wsX100, w ∈ vX10_feed_lo := fun _ h => List.mem_cons_of_mem _ (List.mem_append_left _ (List.mem_append_right _ h))
theorem iX10_feed_lo_X7 : ∀ w ∈ wsX70, w ∈ vX10_feed_lo := fun _ h => List.mem_cons_of_mem _ (List.mem_append_right _ h)
set_option maxRecDepth 20000 in
theorem gX10_feed_lo_0 : GoodIn vX10_feed_lo (wsV RX10 71 RX7 yX7_put vX7_put) := goodIn_app (goodIn_r [.methodLink RX10 71 yX7_put, .instanceMethod yX7_put, .selects RX7 yX7_put yX7_put, .initialized RX7] [3, 4, 5, 6] (by decide +kernel) (by decide +kernel)) (goodIn_ca (goodIn_r (.code yX7_put cX7_put 3 none :: [.fieldLink RX7 15 "HookPier$Reader" "fed" "I", .fieldLink RX7 9 "HookPier$Reader" "text" "[B"]) [7, 8, 9] (by decide +kernel) (by decide +kernel) : GoodIn vX10_feed_lo (.code yX7_put cX7_put 3 none :: [.fieldLink RX7 15 "HookPier$Reader" "fed" "I", .fieldLink RX7 9 "HookPier$Reader" "text" "[B"])) (goodIn_sub iX10_feed_lo_X7 (by decide +kernel)))
set_option maxHeartbeats 2000000 in
set_option maxRecDepth 100000 in
theorem kX10_feed_lo (l : Launch) (dC : Nat → ClassId) (dI : Nat → Nat → Nat) (a0 : Nat) (k1 : Int32) (k2 : Int32) (k3 : Int32) (k4 : Int32) (k5 : Int32) (a6 : Nat) (a7 : Nat) (g8 : Value) (g9 : Value) (g10 : Value) (g11 : Value) (g12 : Value) (g13 : Value) (g14 : Value) (g15 : Value) (g16 : Value) (k17 : Int32) (g18 : Value) (g19 : Value) (g20 : Value) (g21 : Value) (g22 : Value) (g23 : Value) (g24 : Value) (g25 : Value) (g26 : Value) (g27 : Value) (cB28 : ClassId) (f29 : Nat → Int32) (hk17 : (0 ≤ k17.toInt ∧ k17.toInt ≤ 880)) (sz : Nat) : Met l yX10_feed vX10_feed_lo ({ frames := 1, cells := 0, slots := 0, locals := 22 }) (PC (dC, dI) [.ref a0, .int k1, .int k2, .int k3, .int k4, .int k5] sz [(a0, .inr (7, [g8, g9, .ref a6, g10, g11, g12, g13, g14, g15, g16])), (a6, .inr (5, [.ref a7, .int k17, g18, g19, g20, g21, g22, g23, g24, g25, g26, g27])), (a7, .inl (cB28, 900, .inl f29))] [(cB28, .byte)]) (va_Qi (S := Int32 × (Nat → Int32)) (fun (r : Int32) u => (20 ≤ r.toInt ∧ r.toInt ≤ 900) ∧ (r.toInt = k17.toInt + 20) ∧ (20 ≤ (u.1).toInt ∧ (u.1).toInt ≤ 900) ∧ ((u.1).toInt = k17.toInt + 20)) (fun u t => BC (dC, dI) (va_A [(a0, .inr (7, [g8, g9, .ref a6, g10, g11, g12, g13, g14, g15, g16])), (a6, .inr (5, [.ref a7, .int k17, g18, g19, g20, g21, g22, g23, g24, g25, g26, g27])), (a7, .inl (cB28, 900, .inl f29))] sz) [(a0, .inr (7, [g8, g9, .ref a6, g10, g11, g12, g13, g14, g15, g16])), (a6, .inr (5, [.ref a7, .int (u.1), g18, g19, g20, g21, g22, g23, g24, g25, g26, g27])), (a7, .inl (cB28, 900, .inl (u.2)))] [] t) (va_A [(a0, .inr (7, [g8, g9, .ref a6, g10, g11, g12, g13, g14, g15, g16])), (a6, .inr (5, [.ref a7, .int k17, g18, g19, g20, g21, g22, g23, g24, g25, g26, g27])), (a7, .inl (cB28, 900, .inl f29))] sz)) 0 0 (va_A [(a0, .inr (7, [g8, g9, .ref a6, g10, g11, g12, g13, g14, g15, g16])), (a6, .inr (5, [.ref a7, .int k17, g18, g19, g20, g21, g22, g23, g24, g25, g26, g27])), (a7, .inl (cB28, 900, .inl f29))] sz) := by
  refine Met.ofW (cc := cX10_feed) (maxL := 6) (ret := (some .int)) (by decide) rfl ?_
  intro p e s m args below meth c s₁ B hml hv
  obtain ⟨rfl, hsz, hP, hK, hD0, hN⟩ := hv
  have hx := B.exec
  have hb := B.bytes
  have hr := B.returns
  have hts := atoms_spec (ws := vX10_feed_lo) B.pre
  have hown : s.vm.findClass RX10 = some m.cls := findClass_of_methodNamed B.named
  have hlocks := B.notSynchronized
  subst hsz
  have hD := hD0.self (sz := s.heap.size)
  generalize hAe : va_A [(a0, .inr (7, [g8, g9, .ref a6, g10, g11, g12, g13, g14, g15, g16])), (a6, .inr (5, [.ref a7, .int k17, g18, g19, g20, g21, g22, g23, g24, g25, g26, g27])), (a7, .inl (cB28, 900, .inl f29))] s.heap.size = A at hD ⊢
  have hA : ∀ q : Nat, s.heap.size ≤ q → A q := fun q h => by rw [← hAe]; exact Or.inr h
  have hS : va_S A s.heap s.heap [] := va_S.rf
  have hP : va_P (dC, dI) vwCl [(a0, .inr (7, [g8, g9, .ref a6, g10, g11, g12, g13, g14, g15, g16])), (a6, .inr (5, [.ref a7, .int k17, g18, g19, g20, g21, g22, g23, g24, g25, g26, g27])), (a7, .inl (cB28, 900, .inl f29))] s.heap := hP
  have hl := lv_entry ([.ref a0, .int k1, .int k2, .int k3, .int k4, .int k5]) (n := 6) (Nat.le_of_ble_eq_true rfl)
  rw [lg_entry_eq]
  generalize (lg_sl ([.ref a0, .int k1, .int k2, .int k3, .int k4, .int k5]) ++ List.replicate (6 - (lg_sl ([.ref a0, .int k1, .int k2, .int k3, .int k4, .int k5])).length) Slot.unset).toArray = ls at hl ⊢
  have hl : lv_has ls 6 [(0, .ref a0), (1, .int k1), (2, .int k2), (3, .int k3), (4, .int k4), (5, .int k5)] := hl
  refine lv_aload_n hx hb dX10_feed_0 rfl (lv_at hl 0 rfl) ?_
  refine va_get (D := (dC, dI)) (ci := 7) (v := .ref a6) (C := RX10) (T := TX10) (N := 10) hx hb hts iX10_feed_lo_X10 hown hK hP 0 rfl rfl 2 (by decide) (hts (.fieldLink RX10 22 "HookPier" "reader" "LHookPier$Reader;") (List.mem_of_getElem? (i := 1) rfl)) (fun _ h9 => h9) rfl dX10_feed_1 ?_
  refine va_get (D := (dC, dI)) (ci := 5) (v := .int k17) (C := RX7) (T := TX7) (N := 12) hx hb hts iX10_feed_lo_X7 hown hK hP 1 rfl rfl 1 (by decide) (hts (.fieldLink RX10 68 "HookPier$Reader" "fed" "I") (List.mem_of_getElem? (i := 2) rfl)) (fun _ h9 => h9) rfl dX10_feed_4 ?_
  refine lv_bipush (v := 20) hx hb dX10_feed_7 (by decide) ?_
  refine lv_iadd hx hb dX10_feed_9 ?_
  refine lv_topi (fun z1 ez1 => ?_)
  have tz1 : z1.toInt = k17.toInt + 20 := by rw [ez1]; rw [iadd_t (by first | omega | (simp only [ltv_0, ltv_20]; omega)) (by first | omega | (simp only [ltv_0, ltv_20]; omega))]; first | done | (simp only [ltv_0, ltv_20])
  refine lv_sipush (v := 900) hx hb dX10_feed_10 (by decide) ?_
  refine lv_icmp_le (tgt := 18) hx hb dX10_feed_13 (by decide) (fun _ => ?_) (fun c2 => False.elim (by simp only [fa_lt, fa_le, fa_eq, ltv_0, ltv_900] at c2; omega))
  refine lv_aload_n hx hb dX10_feed_18 rfl (lv_at hl 0 rfl) ?_
  refine va_get (D := (dC, dI)) (ci := 7) (v := .ref a6) (C := RX10) (T := TX10) (N := 10) hx hb hts iX10_feed_lo_X10 hown hK hP 0 rfl rfl 2 (by decide) (hts (.fieldLink RX10 22 "HookPier" "reader" "LHookPier$Reader;") (List.mem_of_getElem? (i := 1) rfl)) (fun _ h9 => h9) rfl dX10_feed_19 ?_
  refine lv_iload_n hx hb dX10_feed_22 rfl (lv_at hl 1 rfl) ?_
  refine cl_v (wc := [(a6, .inr (5, [.ref a7, .int k17, g18, g19, g20, g21, g22, g23, g24, g25, g26, g27])), (a7, .inl (cB28, 900, .inl f29))]) (wr := [(a0, .inr (7, [g8, g9, .ref a6, g10, g11, g12, g13, g14, g15, g16]))]) (va_runV (As := [.int k1]) (rest := []) ⟨hx, hb, hml, hown, hts⟩ (kX7_put l dC dI a6 k1 a7 k17 (g18) (g19) (g20) (g21) (g22) (g23) (g24) (g25) (g26) (g27) cB28 f29 (by first | omega | (simp only [ltv_0]; omega)) s.heap.size) (cwV 1 hts gX10_feed_lo_0 rfl rfl rfl (by decide +kernel) ⟨Nat.le_of_ble_eq_true rfl, Nat.le_of_ble_eq_true rfl⟩) (PV (hP.sub (ws' := [(a6, .inr (5, [.ref a7, .int k17, g18, g19, g20, g21, g22, g23, g24, g25, g26, g27])), (a7, .inl (cB28, 900, .inl f29))]) [1, 2] rfl) (hK.sub (tys' := [(cB28, .byte)]) [0] rfl) (hD.sub (ws' := [(a6, .inr (5, [.ref a7, .int k17, g18, g19, g20, g21, g22, g23, g24, g25, g26, g27])), (a7, .inl (cB28, 900, .inl f29))]) [1, 2] (by decide) rfl) hN 0 rfl rfl) rfl rfl hl.1 rfl (lv_room (Nat.le_of_ble_eq_true rfl)) dX10_feed_23 ⟨Nat.le_of_ble_eq_true rfl, Nat.le_of_ble_eq_true rfl⟩) hP hD hK hS hA [1, 2] [0] rfl rfl (by decide) (by decide) (fun u H locs hw hP hD hK hS => ?_)
  obtain ⟨z3, f4⟩ := u
  have b5 := hw
  try dsimp only at b5
  have hP : va_P (dC, dI) vwCl [(a0, .inr (7, [g8, g9, .ref a6, g10, g11, g12, g13, g14, g15, g16])), (a6, .inr (5, [.ref a7, .int z3, g18, g19, g20, g21, g22, g23, g24, g25, g26, g27])), (a7, .inl (cB28, 900, .inl f4))] H := hP
  have hD : va_D A [(a0, .inr (7, [g8, g9, .ref a6, g10, g11, g12, g13, g14, g15, g16])), (a6, .inr (5, [.ref a7, .int z3, g18, g19, g20, g21, g22, g23, g24, g25, g26, g27])), (a7, .inl (cB28, 900, .inl f4))] := hD
  have hK : va_K (dC, dI) vwCl [(cB28, .byte)] s := hK
  refine lv_aload_n hx hb dX10_feed_26 rfl (lv_at hl 0 rfl) ?_
  refine va_get (D := (dC, dI)) (ci := 7) (v := .ref a6) (C := RX10) (T := TX10) (N := 10) hx hb hts iX10_feed_lo_X10 hown hK hP 0 rfl rfl 2 (by decide) (hts (.fieldLink RX10 22 "HookPier" "reader" "LHookPier$Reader;") (List.mem_of_getElem? (i := 1) rfl)) (fun _ h9 => h9) rfl dX10_feed_27 ?_
  refine lv_iload_n hx hb dX10_feed_30 rfl (lv_at hl 2 rfl) ?_
  refine cl_v (wc := [(a6, .inr (5, [.ref a7, .int z3, g18, g19, g20, g21, g22, g23, g24, g25, g26, g27])), (a7, .inl (cB28, 900, .inl f4))]) (wr := [(a0, .inr (7, [g8, g9, .ref a6, g10, g11, g12, g13, g14, g15, g16]))]) (va_runV (As := [.int k2]) (rest := []) ⟨hx, hb, hml, hown, hts⟩ (kX7_put l dC dI a6 k2 a7 z3 (g18) (g19) (g20) (g21) (g22) (g23) (g24) (g25) (g26) (g27) cB28 f4 (by first | omega | (simp only [ltv_0]; omega)) H.size) (cwV 1 hts gX10_feed_lo_0 rfl rfl rfl (by decide +kernel) ⟨Nat.le_of_ble_eq_true rfl, Nat.le_of_ble_eq_true rfl⟩) (PV (hP.sub (ws' := [(a6, .inr (5, [.ref a7, .int z3, g18, g19, g20, g21, g22, g23, g24, g25, g26, g27])), (a7, .inl (cB28, 900, .inl f4))]) [1, 2] rfl) (hK.sub (tys' := [(cB28, .byte)]) [0] rfl) (hD.sub (ws' := [(a6, .inr (5, [.ref a7, .int z3, g18, g19, g20, g21, g22, g23, g24, g25, g26, g27])), (a7, .inl (cB28, 900, .inl f4))]) [1, 2] (by decide) rfl) hN 0 rfl rfl) rfl rfl hl.1 rfl (lv_room (Nat.le_of_ble_eq_true rfl)) dX10_feed_31 ⟨Nat.le_of_ble_eq_true rfl, Nat.le_of_ble_eq_true rfl⟩) hP hD hK hS hA [1, 2] [0] rfl rfl (by decide) (by decide) (fun u H locs hw hP hD hK hS => ?_)
  obtain ⟨z6, f7⟩ := u
  have b8 := hw
  try dsimp only at b8
  have hP : va_P (dC, dI) vwCl [(a0, .inr (7, [g8, g9, .ref a6, g10, g11, g12, g13, g14, g15, g16])), (a6, .inr (5, [.ref a7, .int z6, g18, g19, g20, g21, g22, g23, g24, g25, g26, g27])), (a7, .inl (cB28, 900, .inl f7))] H := hP
  have hD : va_D A [(a0, .inr (7, [g8, g9, .ref a6, g10, g11, g12, g13, g14, g15, g16])), (a6, .inr (5, [.ref a7, .int z6, g18, g19, g20, g21, g22, g23, g24, g25, g26, g27])), (a7, .inl (cB28, 900, .inl f7))] := hD
  have hK : va_K (dC, dI) vwCl [(cB28, .byte)] s := hK
  refine lv_aload_n hx hb dX10_feed_34 rfl (lv_at hl 0 rfl) ?_
  refine va_get (D := (dC, dI)) (ci := 7) (v := .ref a6) (C := RX10) (T := TX10) (N := 10) hx hb hts iX10_feed_lo_X10 hown hK hP 0 rfl rfl 2 (by decide) (hts (.fieldLink RX10 22 "HookPier" "reader" "LHookPier$Reader;") (List.mem_of_getElem? (i := 1) rfl)) (fun _ h9 => h9) rfl dX10_feed_35 ?_
  refine lv_iload_n hx hb dX10_feed_38 rfl (lv_at hl 3 rfl) ?_
  refine cl_v (wc := [(a6, .inr (5, [.ref a7, .int z6, g18, g19, g20, g21, g22, g23, g24, g25, g26, g27])), (a7, .inl (cB28, 900, .inl f7))]) (wr := [(a0, .inr (7, [g8, g9, .ref a6, g10, g11, g12, g13, g14, g15, g16]))]) (va_runV (As := [.int k3]) (rest := []) ⟨hx, hb, hml, hown, hts⟩ (kX7_put l dC dI a6 k3 a7 z6 (g18) (g19) (g20) (g21) (g22) (g23) (g24) (g25) (g26) (g27) cB28 f7 (by first | omega | (simp only [ltv_0]; omega)) H.size) (cwV 1 hts gX10_feed_lo_0 rfl rfl rfl (by decide +kernel) ⟨Nat.le_of_ble_eq_true rfl, Nat.le_of_ble_eq_true rfl⟩) (PV (hP.sub (ws' := [(a6, .inr (5, [.ref a7, .int z6, g18, g19, g20, g21, g22, g23, g24, g25, g26, g27])), (a7, .inl (cB28, 900, .inl f7))]) [1, 2] rfl) (hK.sub (tys' := [(cB28, .byte)]) [0] rfl) (hD.sub (ws' := [(a6, .inr (5, [.ref a7, .int z6, g18, g19, g20, g21, g22, g23, g24, g25, g26, g27])), (a7, .inl (cB28, 900, .inl f7))]) [1, 2] (by decide) rfl) hN 0 rfl rfl) rfl rfl hl.1 rfl (lv_room (Nat.le_of_ble_eq_true rfl)) dX10_feed_39 ⟨Nat.le_of_ble_eq_true rfl, Nat.le_of_ble_eq_true rfl⟩) hP hD hK hS hA [1, 2] [0] rfl rfl (by decide) (by decide) (fun u H locs hw hP hD hK hS => ?_)
  obtain ⟨z9, f10⟩ := u
  have b11 := hw
  try dsimp only at b11
  have hP : va_P (dC, dI) vwCl [(a0, .inr (7, [g8, g9, .ref a6, g10, g11, g12, g13, g14, g15, g16])), (a6, .inr (5, [.ref a7, .int z9, g18, g19, g20, g21, g22, g23, g24, g25, g26, g27])), (a7, .inl (cB28, 900, .inl f10))] H := hP
  have hD : va_D A [(a0, .inr (7, [g8, g9, .ref a6, g10, g11, g12, g13, g14, g15, g16])), (a6, .inr (5, [.ref a7, .int z9, g18, g19, g20, g21, g22, g23, g24, g25, g26, g27])), (a7, .inl (cB28, 900, .inl f10))] := hD
  have hK : va_K (dC, dI) vwCl [(cB28, .byte)] s := hK
  refine lv_aload_n hx hb dX10_feed_42 rfl (lv_at hl 0 rfl) ?_
  refine va_get (D := (dC, dI)) (ci := 7) (v := .ref a6) (C := RX10) (T := TX10) (N := 10) hx hb hts iX10_feed_lo_X10 hown hK hP 0 rfl rfl 2 (by decide) (hts (.fieldLink RX10 22 "HookPier" "reader" "LHookPier$Reader;") (List.mem_of_getElem? (i := 1) rfl)) (fun _ h9 => h9) rfl dX10_feed_43 ?_
  refine lv_iload hx hb dX10_feed_46 (lv_at hl 4 rfl) ?_
  refine cl_v (wc := [(a6, .inr (5, [.ref a7, .int z9, g18, g19, g20, g21, g22, g23, g24, g25, g26, g27])), (a7, .inl (cB28, 900, .inl f10))]) (wr := [(a0, .inr (7, [g8, g9, .ref a6, g10, g11, g12, g13, g14, g15, g16]))]) (va_runV (As := [.int k4]) (rest := []) ⟨hx, hb, hml, hown, hts⟩ (kX7_put l dC dI a6 k4 a7 z9 (g18) (g19) (g20) (g21) (g22) (g23) (g24) (g25) (g26) (g27) cB28 f10 (by first | omega | (simp only [ltv_0]; omega)) H.size) (cwV 1 hts gX10_feed_lo_0 rfl rfl rfl (by decide +kernel) ⟨Nat.le_of_ble_eq_true rfl, Nat.le_of_ble_eq_true rfl⟩) (PV (hP.sub (ws' := [(a6, .inr (5, [.ref a7, .int z9, g18, g19, g20, g21, g22, g23, g24, g25, g26, g27])), (a7, .inl (cB28, 900, .inl f10))]) [1, 2] rfl) (hK.sub (tys' := [(cB28, .byte)]) [0] rfl) (hD.sub (ws' := [(a6, .inr (5, [.ref a7, .int z9, g18, g19, g20, g21, g22, g23, g24, g25, g26, g27])), (a7, .inl (cB28, 900, .inl f10))]) [1, 2] (by decide) rfl) hN 0 rfl rfl) rfl rfl hl.1 rfl (lv_room (Nat.le_of_ble_eq_true rfl)) dX10_feed_48 ⟨Nat.le_of_ble_eq_true rfl, Nat.le_of_ble_eq_true rfl⟩) hP hD hK hS hA [1, 2] [0] rfl rfl (by decide) (by decide) (fun u H locs hw hP hD hK hS => ?_)
  obtain ⟨z12, f13⟩ := u
  have b14 := hw
  try dsimp only at b14
  have hP : va_P (dC, dI) vwCl [(a0, .inr (7, [g8, g9, .ref a6, g10, g11, g12, g13, g14, g15, g16])), (a6, .inr (5, [.ref a7, .int z12, g18, g19, g20, g21, g22, g23, g24, g25, g26, g27])), (a7, .inl (cB28, 900, .inl f13))] H := hP
  have hD : va_D A [(a0, .inr (7, [g8, g9, .ref a6, g10, g11, g12, g13, g14, g15, g16])), (a6, .inr (5, [.ref a7, .int z12, g18, g19, g20, g21, g22, g23, g24, g25, g26, g27])), (a7, .inl (cB28, 900, .inl f13))] := hD
  have hK : va_K (dC, dI) vwCl [(cB28, .byte)] s := hK
  refine lv_aload_n hx hb dX10_feed_51 rfl (lv_at hl 0 rfl) ?_
  refine va_get (D := (dC, dI)) (ci := 7) (v := .ref a6) (C := RX10) (T := TX10) (N := 10) hx hb hts iX10_feed_lo_X10 hown hK hP 0 rfl rfl 2 (by decide) (hts (.fieldLink RX10 22 "HookPier" "reader" "LHookPier$Reader;") (List.mem_of_getElem? (i := 1) rfl)) (fun _ h9 => h9) rfl dX10_feed_52 ?_
  refine lv_iload hx hb dX10_feed_55 (lv_at hl 5 rfl) ?_
  refine cl_v (wc := [(a6, .inr (5, [.ref a7, .int z12, g18, g19, g20, g21, g22, g23, g24, g25, g26, g27])), (a7, .inl (cB28, 900, .inl f13))]) (wr := [(a0, .inr (7, [g8, g9, .ref a6, g10, g11, g12, g13, g14, g15, g16]))]) (va_runV (As := [.int k5]) (rest := []) ⟨hx, hb, hml, hown, hts⟩ (kX7_put l dC dI a6 k5 a7 z12 (g18) (g19) (g20) (g21) (g22) (g23) (g24) (g25) (g26) (g27) cB28 f13 (by first | omega | (simp only [ltv_0]; omega)) H.size) (cwV 1 hts gX10_feed_lo_0 rfl rfl rfl (by decide +kernel) ⟨Nat.le_of_ble_eq_true rfl, Nat.le_of_ble_eq_true rfl⟩) (PV (hP.sub (ws' := [(a6, .inr (5, [.ref a7, .int z12, g18, g19, g20, g21, g22, g23, g24, g25, g26, g27])), (a7, .inl (cB28, 900, .inl f13))]) [1, 2] rfl) (hK.sub (tys' := [(cB28, .byte)]) [0] rfl) (hD.sub (ws' := [(a6, .inr (5, [.ref a7, .int z12, g18, g19, g20, g21, g22, g23, g24, g25, g26, g27])), (a7, .inl (cB28, 900, .inl f13))]) [1, 2] (by decide) rfl) hN 0 rfl rfl) rfl rfl hl.1 rfl (lv_room (Nat.le_of_ble_eq_true rfl)) dX10_feed_57 ⟨Nat.le_of_ble_eq_true rfl, Nat.le_of_ble_eq_true rfl⟩) hP hD hK hS hA [1, 2] [0] rfl rfl (by decide) (by decide) (fun u H locs hw hP hD hK hS => ?_)
  obtain ⟨z15, f16⟩ := u
  have b17 := hw
  try dsimp only at b17
  have hP : va_P (dC, dI) vwCl [(a0, .inr (7, [g8, g9, .ref a6, g10, g11, g12, g13, g14, g15, g16])), (a6, .inr (5, [.ref a7, .int z15, g18, g19, g20, g21, g22, g23, g24, g25, g26, g27])), (a7, .inl (cB28, 900, .inl f16))] H := hP
  have hD : va_D A [(a0, .inr (7, [g8, g9, .ref a6, g10, g11, g12, g13, g14, g15, g16])), (a6, .inr (5, [.ref a7, .int z15, g18, g19, g20, g21, g22, g23, g24, g25, g26, g27])), (a7, .inl (cB28, 900, .inl f16))] := hD
  have hK : va_K (dC, dI) vwCl [(cB28, .byte)] s := hK
  refine lv_aload_n hx hb dX10_feed_60 rfl (lv_at hl 0 rfl) ?_
  refine va_get (D := (dC, dI)) (ci := 7) (v := .ref a6) (C := RX10) (T := TX10) (N := 10) hx hb hts iX10_feed_lo_X10 hown hK hP 0 rfl rfl 2 (by decide) (hts (.fieldLink RX10 22 "HookPier" "reader" "LHookPier$Reader;") (List.mem_of_getElem? (i := 1) rfl)) (fun _ h9 => h9) rfl dX10_feed_61 ?_
  refine va_get (D := (dC, dI)) (ci := 5) (v := .int z15) (C := RX7) (T := TX7) (N := 12) hx hb hts iX10_feed_lo_X7 hown hK hP 1 rfl rfl 1 (by decide) (hts (.fieldLink RX10 68 "HookPier$Reader" "fed" "I") (List.mem_of_getElem? (i := 2) rfl)) (fun _ h9 => h9) rfl dX10_feed_64 ?_
  have hP9 := hP.sub (ws' := [(a0, .inr (7, [g8, g9, .ref a6, g10, g11, g12, g13, g14, g15, g16])), (a6, .inr (5, [.ref a7, .int z15, g18, g19, g20, g21, g22, g23, g24, g25, g26, g27])), (a7, .inl (cB28, 900, .inl f16))]) [0, 1, 2] rfl
  have hD9 := hD.sub (ws' := [(a0, .inr (7, [g8, g9, .ref a6, g10, g11, g12, g13, g14, g15, g16])), (a6, .inr (5, [.ref a7, .int z15, g18, g19, g20, g21, g22, g23, g24, g25, g26, g27])), (a7, .inl (cB28, 900, .inl f16))]) [0, 1, 2] (by decide) rfl
  have hK9 := hK.sub (tys' := []) [] rfl
  exact W.iret (v := z15) hx hb hr (fun t ht hW => ⟨⟨z15, (z15, f16), rfl, ⟨(by first | trivial | omega | (simp only [ltv_0]; omega)), (by first | trivial | omega | (simp only [ltv_0]; omega)), (by first | trivial | omega | (simp only [ltv_0]; omega)), (by first | trivial | omega | (simp only [ltv_0]; omega))⟩, by rw [ht]; exact hP9, va_K.moved hW.alike hK9, hD9⟩, hS.F ht⟩) hS.2.2 dX10_feed_67
theorem dX10_feed_16 : decode cX10_feed 16 = .ok (.iconst (-1), 1) := by decide +kernel
theorem dX10_feed_17 : decode cX10_feed 17 = .ok (.ireturn, 1) := by decide +kernel
def vX10_feed_hi : List Cond := .code yX10_feed cX10_feed 6 (some .int) :: ([.fieldLink RX10 22 "HookPier" "reader" "LHookPier$Reader;", .fieldLink RX10 68 "HookPier$Reader" "fed" "I"] ++ wsX100 ++ wsX70)
theorem iX10_feed_hi_X10 : ∀ w ∈ wsX100, w ∈ vX10_feed_hi := fun _ h => List.mem_cons_of_mem _ (List.mem_append_left _ (List.mem_append_right _ h))
theorem iX10_feed_hi_X7 : ∀ w ∈ wsX70, w ∈ vX10_feed_hi := fun _ h => List.mem_cons_of_mem _ (List.mem_append_right _ h)
set_option maxHeartbeats 2000000 in
set_option maxRecDepth 100000 in
theorem kX10_feed_hi (l : Launch) (dC : Nat → ClassId) (dI : Nat → Nat → Nat) (a0 : Nat) (k1 : Int32) (k2 : Int32) (k3 : Int32) (k4 : Int32) (k5 : Int32) (a6 : Nat) (g7 : Value) (g8 : Value) (g9 : Value) (g10 : Value) (g11 : Value) (g12 : Value) (g13 : Value) (g14 : Value) (g15 : Value) (g16 : Value) (k17 : Int32) (g18 : Value) (g19 : Value) (g20 : Value) (g21 : Value) (g22 : Value) (g23 : Value) (g24 : Value) (g25 : Value) (g26 : Value) (g27 : Value) (hk17 : (881 ≤ k17.toInt ∧ k17.toInt ≤ 900)) (sz : Nat) : Met l yX10_feed vX10_feed_hi ({ frames := 0, cells := 0, slots := 0, locals := 0 }) (PC (dC, dI) [.ref a0, .int k1, .int k2, .int k3, .int k4, .int k5] sz [(a0, .inr (7, [g7, g8, .ref a6, g9, g10, g11, g12, g13, g14, g15])), (a6, .inr (5, [g16, .int k17, g18, g19, g20, g21, g22, g23, g24, g25, g26, g27]))] []) (va_Qi (S := Unit) (fun (r : Int32) _ => r = (-1)) (fun _ t => BC (dC, dI) (va_A [(a0, .inr (7, [g7, g8, .ref a6, g9, g10, g11, g12, g13, g14, g15])), (a6, .inr (5, [g16, .int k17, g18, g19, g20, g21, g22, g23, g24, g25, g26, g27]))] sz) [(a0, .inr (7, [g7, g8, .ref a6, g9, g10, g11, g12, g13, g14, g15])), (a6, .inr (5, [g16, .int k17, g18, g19, g20, g21, g22, g23, g24, g25, g26, g27]))] [] t) (va_A [(a0, .inr (7, [g7, g8, .ref a6, g9, g10, g11, g12, g13, g14, g15])), (a6, .inr (5, [g16, .int k17, g18, g19, g20, g21, g22, g23, g24, g25, g26, g27]))] sz)) 0 0 (va_A [(a0, .inr (7, [g7, g8, .ref a6, g9, g10, g11, g12, g13, g14, g15])), (a6, .inr (5, [g16, .int k17, g18, g19, g20, g21, g22, g23, g24, g25, g26, g27]))] sz) := by
  refine Met.ofW (cc := cX10_feed) (maxL := 6) (ret := (some .int)) (by decide) rfl ?_
  intro p e s m args below meth c s₁ B hml hv
  obtain ⟨rfl, hsz, hP, hK, hD0, hN⟩ := hv
  have hx := B.exec
  have hb := B.bytes
  have hr := B.returns
  have hts := atoms_spec (ws := vX10_feed_hi) B.pre
  have hown : s.vm.findClass RX10 = some m.cls := findClass_of_methodNamed B.named
  have hlocks := B.notSynchronized
  subst hsz
  have hD := hD0.self (sz := s.heap.size)
  generalize hAe : va_A [(a0, .inr (7, [g7, g8, .ref a6, g9, g10, g11, g12, g13, g14, g15])), (a6, .inr (5, [g16, .int k17, g18, g19, g20, g21, g22, g23, g24, g25, g26, g27]))] s.heap.size = A at hD ⊢
  have hA : ∀ q : Nat, s.heap.size ≤ q → A q := fun q h => by rw [← hAe]; exact Or.inr h
  have hS : va_S A s.heap s.heap [] := va_S.rf
  have hP : va_P (dC, dI) vwCl [(a0, .inr (7, [g7, g8, .ref a6, g9, g10, g11, g12, g13, g14, g15])), (a6, .inr (5, [g16, .int k17, g18, g19, g20, g21, g22, g23, g24, g25, g26, g27]))] s.heap := hP
  have hl := lv_entry ([.ref a0, .int k1, .int k2, .int k3, .int k4, .int k5]) (n := 6) (Nat.le_of_ble_eq_true rfl)
  rw [lg_entry_eq]
  generalize (lg_sl ([.ref a0, .int k1, .int k2, .int k3, .int k4, .int k5]) ++ List.replicate (6 - (lg_sl ([.ref a0, .int k1, .int k2, .int k3, .int k4, .int k5])).length) Slot.unset).toArray = ls at hl ⊢
  have hl : lv_has ls 6 [(0, .ref a0), (1, .int k1), (2, .int k2), (3, .int k3), (4, .int k4), (5, .int k5)] := hl
  refine lv_aload_n hx hb dX10_feed_0 rfl (lv_at hl 0 rfl) ?_
  refine va_get (D := (dC, dI)) (ci := 7) (v := .ref a6) (C := RX10) (T := TX10) (N := 10) hx hb hts iX10_feed_hi_X10 hown hK hP 0 rfl rfl 2 (by decide) (hts (.fieldLink RX10 22 "HookPier" "reader" "LHookPier$Reader;") (List.mem_of_getElem? (i := 1) rfl)) (fun _ h9 => h9) rfl dX10_feed_1 ?_
  refine va_get (D := (dC, dI)) (ci := 5) (v := .int k17) (C := RX7) (T := TX7) (N := 12) hx hb hts iX10_feed_hi_X7 hown hK hP 1 rfl rfl 1 (by decide) (hts (.fieldLink RX10 68 "HookPier$Reader" "fed" "I") (List.mem_of_getElem? (i := 2) rfl)) (fun _ h9 => h9) rfl dX10_feed_4 ?_
  refine lv_bipush (v := 20) hx hb dX10_feed_7 (by decide) ?_
  refine lv_iadd hx hb dX10_feed_9 ?_
  refine lv_topi (fun z1 ez1 => ?_)
  have tz1 : z1.toInt = k17.toInt + 20 := by rw [ez1]; rw [iadd_t (by first | omega | (simp only [ltv_0, ltv_20]; omega)) (by first | omega | (simp only [ltv_0, ltv_20]; omega))]; first | done | (simp only [ltv_0, ltv_20])
  refine lv_sipush (v := 900) hx hb dX10_feed_10 (by decide) ?_
  refine lv_icmp_le (tgt := 18) hx hb dX10_feed_13 (by decide) (fun c2 => False.elim (by simp only [fa_lt, fa_le, fa_eq, ltv_0, ltv_900] at c2; omega)) (fun _ => ?_)
  refine lv_iconst (v := (-1)) hx hb dX10_feed_16 (by decide) ?_
  have hP9 := hP.sub (ws' := [(a0, .inr (7, [g7, g8, .ref a6, g9, g10, g11, g12, g13, g14, g15])), (a6, .inr (5, [g16, .int k17, g18, g19, g20, g21, g22, g23, g24, g25, g26, g27]))]) [0, 1] rfl
  have hD9 := hD.sub (ws' := [(a0, .inr (7, [g7, g8, .ref a6, g9, g10, g11, g12, g13, g14, g15])), (a6, .inr (5, [g16, .int k17, g18, g19, g20, g21, g22, g23, g24, g25, g26, g27]))]) [0, 1] (by decide) rfl
  have hK9 := hK.sub (tys' := []) [] rfl
  exact W.iret (v := (-1)) hx hb hr (fun t ht hW => ⟨⟨(-1), (), rfl, rfl, by rw [ht]; exact hP9, va_K.moved hW.alike hK9, hD9⟩, hS.F ht⟩) hS.2.2 dX10_feed_17
theorem dX10_where_0 : decode cX10_where 0 = .ok (.aload_n 0, 1) := by decide +kernel
theorem dX10_where_1 : decode cX10_where 1 = .ok (.getfield 61, 3) := by decide +kernel
theorem dX10_where_12 : decode cX10_where 12 = .ok (.getfield 99, 3) := by decide +kernel
theorem dX10_where_15 : decode cX10_where 15 = .ok (.goto 4, 3) := by decide +kernel
theorem dX10_where_18 : decode cX10_where 18 = .ok (.iconst (-1), 1) := by decide +kernel
theorem dX10_where_19 : decode cX10_where 19 = .ok (.ireturn, 1) := by decide +kernel
theorem dX10_where_4 : decode cX10_where 4 = .ok (.iconst 4, 1) := by decide +kernel
theorem dX10_where_5 : decode cX10_where 5 = .ok (.if_icmp .ne 13, 3) := by decide +kernel
theorem dX10_where_8 : decode cX10_where 8 = .ok (.aload_n 0, 1) := by decide +kernel
theorem dX10_where_9 : decode cX10_where 9 = .ok (.getfield 22, 3) := by decide +kernel
def vX10_where : List Cond := .code yX10_where cX10_where 1 (some .int) :: ([.fieldLink RX10 61 "HookPier" "troubleNow" "I", .fieldLink RX10 22 "HookPier" "reader" "LHookPier$Reader;", .fieldLink RX10 99 "HookPier$Reader" "place" "I"] ++ wsX100 ++ wsX70)
theorem iX10_where_X10 : ∀ w ∈ wsX100, w ∈ vX10_where := fun _ h => List.mem_cons_of_mem _ (List.mem_append_left _ (List.mem_append_right _ h))
theorem iX10_where_X7 : ∀ w ∈ wsX70, w ∈ vX10_where := fun _ h => List.mem_cons_of_mem _ (List.mem_append_right _ h)
set_option maxHeartbeats 2000000 in
set_option maxRecDepth 100000 in
theorem kX10_where (l : Launch) (dC : Nat → ClassId) (dI : Nat → Nat → Nat) (a0 : Nat) (a1 : Nat) (g2 : Value) (g3 : Value) (g4 : Value) (g5 : Value) (g6 : Value) (g7 : Value) (g8 : Value) (k9 : Int32) (g10 : Value) (g11 : Value) (g12 : Value) (g13 : Value) (g14 : Value) (g15 : Value) (g16 : Value) (g17 : Value) (g18 : Value) (g19 : Value) (g20 : Value) (g21 : Value) (k22 : Int32) (sz : Nat) : Met l yX10_where vX10_where ({ frames := 0, cells := 0, slots := 0, locals := 0 }) (PC (dC, dI) [.ref a0] sz [(a0, .inr (7, [g2, g3, .ref a1, g4, g5, g6, g7, g8, .int k9, g10])), (a1, .inr (5, [g11, g12, g13, g14, g15, g16, g17, g18, g19, g20, g21, .int k22]))] []) (va_Qi (S := Unit) (fun (r : Int32) _ => True) (fun _ t => BC (dC, dI) (va_A [(a0, .inr (7, [g2, g3, .ref a1, g4, g5, g6, g7, g8, .int k9, g10])), (a1, .inr (5, [g11, g12, g13, g14, g15, g16, g17, g18, g19, g20, g21, .int k22]))] sz) [(a0, .inr (7, [g2, g3, .ref a1, g4, g5, g6, g7, g8, .int k9, g10])), (a1, .inr (5, [g11, g12, g13, g14, g15, g16, g17, g18, g19, g20, g21, .int k22]))] [] t) (va_A [(a0, .inr (7, [g2, g3, .ref a1, g4, g5, g6, g7, g8, .int k9, g10])), (a1, .inr (5, [g11, g12, g13, g14, g15, g16, g17, g18, g19, g20, g21, .int k22]))] sz)) 0 0 (va_A [(a0, .inr (7, [g2, g3, .ref a1, g4, g5, g6, g7, g8, .int k9, g10])), (a1, .inr (5, [g11, g12, g13, g14, g15, g16, g17, g18, g19, g20, g21, .int k22]))] sz) := by
  refine Met.ofW (cc := cX10_where) (maxL := 1) (ret := (some .int)) (by decide) rfl ?_
  intro p e s m args below meth c s₁ B hml hv
  obtain ⟨rfl, hsz, hP, hK, hD0, hN⟩ := hv
  have hx := B.exec
  have hb := B.bytes
  have hr := B.returns
  have hts := atoms_spec (ws := vX10_where) B.pre
  have hown : s.vm.findClass RX10 = some m.cls := findClass_of_methodNamed B.named
  have hlocks := B.notSynchronized
  subst hsz
  have hD := hD0.self (sz := s.heap.size)
  generalize hAe : va_A [(a0, .inr (7, [g2, g3, .ref a1, g4, g5, g6, g7, g8, .int k9, g10])), (a1, .inr (5, [g11, g12, g13, g14, g15, g16, g17, g18, g19, g20, g21, .int k22]))] s.heap.size = A at hD ⊢
  have hA : ∀ q : Nat, s.heap.size ≤ q → A q := fun q h => by rw [← hAe]; exact Or.inr h
  have hS : va_S A s.heap s.heap [] := va_S.rf
  have hP : va_P (dC, dI) vwCl [(a0, .inr (7, [g2, g3, .ref a1, g4, g5, g6, g7, g8, .int k9, g10])), (a1, .inr (5, [g11, g12, g13, g14, g15, g16, g17, g18, g19, g20, g21, .int k22]))] s.heap := hP
  have hl := lv_entry ([.ref a0]) (n := 1) (Nat.le_of_ble_eq_true rfl)
  rw [lg_entry_eq]
  generalize (lg_sl ([.ref a0]) ++ List.replicate (1 - (lg_sl ([.ref a0])).length) Slot.unset).toArray = ls at hl ⊢
  have hl : lv_has ls 1 [(0, .ref a0)] := hl
  refine lv_aload_n hx hb dX10_where_0 rfl (lv_at hl 0 rfl) ?_
  refine va_get (D := (dC, dI)) (ci := 7) (v := .int k9) (C := RX10) (T := TX10) (N := 10) hx hb hts iX10_where_X10 hown hK hP 0 rfl rfl 8 (by decide) (hts (.fieldLink RX10 61 "HookPier" "troubleNow" "I") (List.mem_of_getElem? (i := 1) rfl)) (fun _ h9 => h9) rfl dX10_where_1 ?_
  refine lv_iconst (v := 4) hx hb dX10_where_4 (by decide) ?_
  refine lv_icmp_ne (tgt := 18) hx hb dX10_where_5 (by decide) (fun c1 => ?_) (fun c1 => ?_)
  · simp only [fa_lt, fa_le, fa_eq, ltv_0, ltv_4] at c1
    refine lv_iconst (v := (-1)) hx hb dX10_where_18 (by decide) ?_
    have hP9 := hP.sub (ws' := [(a0, .inr (7, [g2, g3, .ref a1, g4, g5, g6, g7, g8, .int k9, g10])), (a1, .inr (5, [g11, g12, g13, g14, g15, g16, g17, g18, g19, g20, g21, .int k22]))]) [0, 1] rfl
    have hD9 := hD.sub (ws' := [(a0, .inr (7, [g2, g3, .ref a1, g4, g5, g6, g7, g8, .int k9, g10])), (a1, .inr (5, [g11, g12, g13, g14, g15, g16, g17, g18, g19, g20, g21, .int k22]))]) [0, 1] (by decide) rfl
    have hK9 := hK.sub (tys' := []) [] rfl
    exact W.iret (v := (-1)) hx hb hr (fun t ht hW => ⟨⟨(-1), (), rfl, trivial, by rw [ht]; exact hP9, va_K.moved hW.alike hK9, hD9⟩, hS.F ht⟩) hS.2.2 dX10_where_19
  · simp only [fa_lt, fa_le, fa_eq, ltv_0, ltv_4] at c1
    refine lv_aload_n hx hb dX10_where_8 rfl (lv_at hl 0 rfl) ?_
    refine va_get (D := (dC, dI)) (ci := 7) (v := .ref a1) (C := RX10) (T := TX10) (N := 10) hx hb hts iX10_where_X10 hown hK hP 0 rfl rfl 2 (by decide) (hts (.fieldLink RX10 22 "HookPier" "reader" "LHookPier$Reader;") (List.mem_of_getElem? (i := 2) rfl)) (fun _ h9 => h9) rfl dX10_where_9 ?_
    refine va_get (D := (dC, dI)) (ci := 5) (v := .int k22) (C := RX7) (T := TX7) (N := 12) hx hb hts iX10_where_X7 hown hK hP 1 rfl rfl 11 (by decide) (hts (.fieldLink RX10 99 "HookPier$Reader" "place" "I") (List.mem_of_getElem? (i := 3) rfl)) (fun _ h9 => h9) rfl dX10_where_12 ?_
    refine lv_goto (tgt := 19) hx hb dX10_where_15 (by decide) ?_
    have hP9 := hP.sub (ws' := [(a0, .inr (7, [g2, g3, .ref a1, g4, g5, g6, g7, g8, .int k9, g10])), (a1, .inr (5, [g11, g12, g13, g14, g15, g16, g17, g18, g19, g20, g21, .int k22]))]) [0, 1] rfl
    have hD9 := hD.sub (ws' := [(a0, .inr (7, [g2, g3, .ref a1, g4, g5, g6, g7, g8, .int k9, g10])), (a1, .inr (5, [g11, g12, g13, g14, g15, g16, g17, g18, g19, g20, g21, .int k22]))]) [0, 1] (by decide) rfl
    have hK9 := hK.sub (tys' := []) [] rfl
    exact W.iret (v := k22) hx hb hr (fun t ht hW => ⟨⟨k22, (), rfl, trivial, by rw [ht]; exact hP9, va_K.moved hW.alike hK9, hD9⟩, hS.F ht⟩) hS.2.2 dX10_where_19
theorem dX10_size_0 : decode cX10_size 0 = .ok (.iload_n 1, 1) := by decide +kernel
theorem dX10_size_1 : decode cX10_size 1 = .ok (.tableswitch 159 0 11 #[63, 71, 79, 87, 95, 103, 111, 119, 127, 135, 143, 151], 63) := by decide +kernel
theorem dX10_size_100 : decode cX10_size 100 = .ok (.getfield 96, 3) := by decide +kernel
theorem dX10_size_103 : decode cX10_size 103 = .ok (.ireturn, 1) := by decide +kernel
theorem dX10_size_104 : decode cX10_size 104 = .ok (.aload_n 0, 1) := by decide +kernel
theorem dX10_size_105 : decode cX10_size 105 = .ok (.getfield 10, 3) := by decide +kernel
theorem dX10_size_108 : decode cX10_size 108 = .ok (.getfield 284, 3) := by decide +kernel
theorem dX10_size_111 : decode cX10_size 111 = .ok (.ireturn, 1) := by decide +kernel
theorem dX10_size_112 : decode cX10_size 112 = .ok (.aload_n 0, 1) := by decide +kernel
theorem dX10_size_113 : decode cX10_size 113 = .ok (.getfield 29, 3) := by decide +kernel
theorem dX10_size_116 : decode cX10_size 116 = .ok (.getfield 134, 3) := by decide +kernel
theorem dX10_size_119 : decode cX10_size 119 = .ok (.ireturn, 1) := by decide +kernel
theorem dX10_size_120 : decode cX10_size 120 = .ok (.aload_n 0, 1) := by decide +kernel
theorem dX10_size_121 : decode cX10_size 121 = .ok (.getfield 29, 3) := by decide +kernel
theorem dX10_size_124 : decode cX10_size 124 = .ok (.getfield 351, 3) := by decide +kernel
theorem dX10_size_127 : decode cX10_size 127 = .ok (.ireturn, 1) := by decide +kernel
theorem dX10_size_128 : decode cX10_size 128 = .ok (.aload_n 0, 1) := by decide +kernel
theorem dX10_size_129 : decode cX10_size 129 = .ok (.getfield 29, 3) := by decide +kernel
theorem dX10_size_132 : decode cX10_size 132 = .ok (.getfield 344, 3) := by decide +kernel
theorem dX10_size_135 : decode cX10_size 135 = .ok (.ireturn, 1) := by decide +kernel
theorem dX10_size_136 : decode cX10_size 136 = .ok (.aload_n 0, 1) := by decide +kernel
theorem dX10_size_137 : decode cX10_size 137 = .ok (.getfield 36, 3) := by decide +kernel
theorem dX10_size_140 : decode cX10_size 140 = .ok (.getfield 354, 3) := by decide +kernel
theorem dX10_size_143 : decode cX10_size 143 = .ok (.ireturn, 1) := by decide +kernel
theorem dX10_size_144 : decode cX10_size 144 = .ok (.aload_n 0, 1) := by decide +kernel
theorem dX10_size_145 : decode cX10_size 145 = .ok (.getfield 36, 3) := by decide +kernel
theorem dX10_size_148 : decode cX10_size 148 = .ok (.getfield 360, 3) := by decide +kernel
theorem dX10_size_151 : decode cX10_size 151 = .ok (.ireturn, 1) := by decide +kernel
theorem dX10_size_152 : decode cX10_size 152 = .ok (.aload_n 0, 1) := by decide +kernel
theorem dX10_size_153 : decode cX10_size 153 = .ok (.getfield 22, 3) := by decide +kernel
theorem dX10_size_156 : decode cX10_size 156 = .ok (.getfield 68, 3) := by decide +kernel
theorem dX10_size_159 : decode cX10_size 159 = .ok (.ireturn, 1) := by decide +kernel
theorem dX10_size_160 : decode cX10_size 160 = .ok (.iconst (-1), 1) := by decide +kernel
theorem dX10_size_161 : decode cX10_size 161 = .ok (.ireturn, 1) := by decide +kernel
theorem dX10_size_64 : decode cX10_size 64 = .ok (.aload_n 0, 1) := by decide +kernel
theorem dX10_size_65 : decode cX10_size 65 = .ok (.getfield 10, 3) := by decide +kernel
theorem dX10_size_68 : decode cX10_size 68 = .ok (.getfield 233, 3) := by decide +kernel
theorem dX10_size_71 : decode cX10_size 71 = .ok (.ireturn, 1) := by decide +kernel
theorem dX10_size_72 : decode cX10_size 72 = .ok (.aload_n 0, 1) := by decide +kernel
theorem dX10_size_73 : decode cX10_size 73 = .ok (.getfield 10, 3) := by decide +kernel
theorem dX10_size_76 : decode cX10_size 76 = .ok (.getfield 378, 3) := by decide +kernel
theorem dX10_size_79 : decode cX10_size 79 = .ok (.ireturn, 1) := by decide +kernel
theorem dX10_size_80 : decode cX10_size 80 = .ok (.aload_n 0, 1) := by decide +kernel
theorem dX10_size_81 : decode cX10_size 81 = .ok (.getfield 10, 3) := by decide +kernel
theorem dX10_size_84 : decode cX10_size 84 = .ok (.getfield 224, 3) := by decide +kernel
theorem dX10_size_87 : decode cX10_size 87 = .ok (.ireturn, 1) := by decide +kernel
theorem dX10_size_88 : decode cX10_size 88 = .ok (.aload_n 0, 1) := by decide +kernel
theorem dX10_size_89 : decode cX10_size 89 = .ok (.getfield 10, 3) := by decide +kernel
theorem dX10_size_92 : decode cX10_size 92 = .ok (.getfield 246, 3) := by decide +kernel
theorem dX10_size_95 : decode cX10_size 95 = .ok (.ireturn, 1) := by decide +kernel
theorem dX10_size_96 : decode cX10_size 96 = .ok (.aload_n 0, 1) := by decide +kernel
theorem dX10_size_97 : decode cX10_size 97 = .ok (.getfield 10, 3) := by decide +kernel
def vX10_size : List Cond := .code yX10_size cX10_size 2 (some .int) :: ([.fieldLink RX10 10 "HookPier" "plan" "LHookPier$Plan;", .fieldLink RX10 233 "HookPier$Plan" "spots" "I", .fieldLink RX10 378 "HookPier$Plan" "deep" "I", .fieldLink RX10 224 "HookPier$Plan" "baits" "I", .fieldLink RX10 246 "HookPier$Plan" "askers" "I", .fieldLink RX10 96 "HookPier$Plan" "answers" "I", .fieldLink RX10 284 "HookPier$Plan" "bites" "I", .fieldLink RX10 29 "HookPier" "now" "LHookPier$Now;", .fieldLink RX10 134 "HookPier$Now" "today" "I", .fieldLink RX10 351 "HookPier$Now" "seedNow" "I", .fieldLink RX10 344 "HookPier$Now" "soldFor" "I", .fieldLink RX10 36 "HookPier" "history" "LHookPier$History;", .fieldLink RX10 354 "HookPier$History" "acts" "I", .fieldLink RX10 360 "HookPier$History" "marks" "I", .fieldLink RX10 22 "HookPier" "reader" "LHookPier$Reader;", .fieldLink RX10 68 "HookPier$Reader" "fed" "I"] ++ wsX100 ++ wsX60 ++ wsX40 ++ wsX20 ++ wsX70)
theorem iX10_size_X10 : ∀ w ∈ wsX100, w ∈ vX10_size := fun _ h => List.mem_cons_of_mem _ (List.mem_append_left _ (List.mem_append_left _ (List.mem_append_left _ (List.mem_append_left _ (List.mem_append_right _ h)))))
theorem iX10_size_X6 : ∀ w ∈ wsX60, w ∈ vX10_size := fun _ h => List.mem_cons_of_mem _ (List.mem_append_left _ (List.mem_append_left _ (List.mem_append_left _ (List.mem_append_right _ h))))
theorem iX10_size_X4 : ∀ w ∈ wsX40, w ∈ vX10_size := fun _ h => List.mem_cons_of_mem _ (List.mem_append_left _ (List.mem_append_left _ (List.mem_append_right _ h)))
theorem iX10_size_X2 : ∀ w ∈ wsX20, w ∈ vX10_size := fun _ h => List.mem_cons_of_mem _ (List.mem_append_left _ (List.mem_append_right _ h))
theorem iX10_size_X7 : ∀ w ∈ wsX70, w ∈ vX10_size := fun _ h => List.mem_cons_of_mem _ (List.mem_append_right _ h)
set_option maxHeartbeats 2000000 in
set_option maxRecDepth 100000 in
theorem kX10_size (l : Launch) (dC : Nat → ClassId) (dI : Nat → Nat → Nat) (a0 : Nat) (k1 : Int32) (a2 : Nat) (a3 : Nat) (a4 : Nat) (a5 : Nat) (g6 : Value) (g7 : Value) (g8 : Value) (g9 : Value) (g10 : Value) (g11 : Value) (k12 : Int32) (k13 : Int32) (g14 : Value) (g15 : Value) (k16 : Int32) (k17 : Int32) (k18 : Int32) (k19 : Int32) (g20 : Value) (g21 : Value) (g22 : Value) (g23 : Value) (g24 : Value) (g25 : Value) (g26 : Value) (g27 : Value) (g28 : Value) (g29 : Value) (g30 : Value) (k31 : Int32) (g32 : Value) (g33 : Value) (g34 : Value) (g35 : Value) (g36 : Value) (g37 : Value) (g38 : Value) (g39 : Value) (g40 : Value) (g41 : Value) (k42 : Int32) (k43 : Int32) (k44 : Int32) (g45 : Value) (g46 : Value) (g47 : Value) (g48 : Value) (g49 : Value) (g50 : Value) (g51 : Value) (k52 : Int32) (k53 : Int32) (hk12 : (0 ≤ k12.toInt ∧ k12.toInt ≤ 8)) (hk13 : (0 ≤ k13.toInt ∧ k13.toInt ≤ 9)) (hk16 : (0 ≤ k16.toInt ∧ k16.toInt ≤ 4)) (hk17 : (0 ≤ k17.toInt ∧ k17.toInt ≤ 5)) (hk18 : (0 ≤ k18.toInt ∧ k18.toInt ≤ 6)) (hk19 : (0 ≤ k19.toInt ∧ k19.toInt ≤ 6)) (hk31 : (0 ≤ k31.toInt ∧ k31.toInt ≤ 900)) (hk52 : (0 ≤ k52.toInt ∧ k52.toInt ≤ 16)) (hk53 : (0 ≤ k53.toInt ∧ k53.toInt ≤ 3)) (sz : Nat) : Met l yX10_size vX10_size ({ frames := 0, cells := 0, slots := 0, locals := 0 }) (PC (dC, dI) [.ref a0, .int k1] sz [(a0, .inr (7, [.ref a2, g6, .ref a3, .ref a4, .ref a5, g7, g8, g9, g10, g11])), (a2, .inr (4, [.int k12, .int k13, g14, g15, .int k16, .int k17, .int k18, .int k19, g20, g21, g22, g23, g24, g25, g26, g27, g28, g29])), (a3, .inr (5, [g30, .int k31, g32, g33, g34, g35, g36, g37, g38, g39, g40, g41])), (a4, .inr (3, [.int k42, .int k43, .int k44, g45, g46, g47, g48])), (a5, .inr (2, [g49, g50, g51, .int k52, .int k53]))] []) (va_Qi (S := Unit) (fun (r : Int32) _ => True) (fun _ t => BC (dC, dI) (va_A [(a0, .inr (7, [.ref a2, g6, .ref a3, .ref a4, .ref a5, g7, g8, g9, g10, g11])), (a2, .inr (4, [.int k12, .int k13, g14, g15, .int k16, .int k17, .int k18, .int k19, g20, g21, g22, g23, g24, g25, g26, g27, g28, g29])), (a3, .inr (5, [g30, .int k31, g32, g33, g34, g35, g36, g37, g38, g39, g40, g41])), (a4, .inr (3, [.int k42, .int k43, .int k44, g45, g46, g47, g48])), (a5, .inr (2, [g49, g50, g51, .int k52, .int k53]))] sz) [(a0, .inr (7, [.ref a2, g6, .ref a3, .ref a4, .ref a5, g7, g8, g9, g10, g11])), (a2, .inr (4, [.int k12, .int k13, g14, g15, .int k16, .int k17, .int k18, .int k19, g20, g21, g22, g23, g24, g25, g26, g27, g28, g29])), (a3, .inr (5, [g30, .int k31, g32, g33, g34, g35, g36, g37, g38, g39, g40, g41])), (a4, .inr (3, [.int k42, .int k43, .int k44, g45, g46, g47, g48])), (a5, .inr (2, [g49, g50, g51, .int k52, .int k53]))] [] t) (va_A [(a0, .inr (7, [.ref a2, g6, .ref a3, .ref a4, .ref a5, g7, g8, g9, g10, g11])), (a2, .inr (4, [.int k12, .int k13, g14, g15, .int k16, .int k17, .int k18, .int k19, g20, g21, g22, g23, g24, g25, g26, g27, g28, g29])), (a3, .inr (5, [g30, .int k31, g32, g33, g34, g35, g36, g37, g38, g39, g40, g41])), (a4, .inr (3, [.int k42, .int k43, .int k44, g45, g46, g47, g48])), (a5, .inr (2, [g49, g50, g51, .int k52, .int k53]))] sz)) 0 0 (va_A [(a0, .inr (7, [.ref a2, g6, .ref a3, .ref a4, .ref a5, g7, g8, g9, g10, g11])), (a2, .inr (4, [.int k12, .int k13, g14, g15, .int k16, .int k17, .int k18, .int k19, g20, g21, g22, g23, g24, g25, g26, g27, g28, g29])), (a3, .inr (5, [g30, .int k31, g32, g33, g34, g35, g36, g37, g38, g39, g40, g41])), (a4, .inr (3, [.int k42, .int k43, .int k44, g45, g46, g47, g48])), (a5, .inr (2, [g49, g50, g51, .int k52, .int k53]))] sz) := by
  refine Met.ofW (cc := cX10_size) (maxL := 2) (ret := (some .int)) (by decide) rfl ?_
  intro p e s m args below meth c s₁ B hml hv
  obtain ⟨rfl, hsz, hP, hK, hD0, hN⟩ := hv
  have hx := B.exec
  have hb := B.bytes
  have hr := B.returns
  have hts := atoms_spec (ws := vX10_size) B.pre
  have hown : s.vm.findClass RX10 = some m.cls := findClass_of_methodNamed B.named
  have hlocks := B.notSynchronized
  subst hsz
  have hD := hD0.self (sz := s.heap.size)
  generalize hAe : va_A [(a0, .inr (7, [.ref a2, g6, .ref a3, .ref a4, .ref a5, g7, g8, g9, g10, g11])), (a2, .inr (4, [.int k12, .int k13, g14, g15, .int k16, .int k17, .int k18, .int k19, g20, g21, g22, g23, g24, g25, g26, g27, g28, g29])), (a3, .inr (5, [g30, .int k31, g32, g33, g34, g35, g36, g37, g38, g39, g40, g41])), (a4, .inr (3, [.int k42, .int k43, .int k44, g45, g46, g47, g48])), (a5, .inr (2, [g49, g50, g51, .int k52, .int k53]))] s.heap.size = A at hD ⊢
  have hA : ∀ q : Nat, s.heap.size ≤ q → A q := fun q h => by rw [← hAe]; exact Or.inr h
  have hS : va_S A s.heap s.heap [] := va_S.rf
  have hP : va_P (dC, dI) vwCl [(a0, .inr (7, [.ref a2, g6, .ref a3, .ref a4, .ref a5, g7, g8, g9, g10, g11])), (a2, .inr (4, [.int k12, .int k13, g14, g15, .int k16, .int k17, .int k18, .int k19, g20, g21, g22, g23, g24, g25, g26, g27, g28, g29])), (a3, .inr (5, [g30, .int k31, g32, g33, g34, g35, g36, g37, g38, g39, g40, g41])), (a4, .inr (3, [.int k42, .int k43, .int k44, g45, g46, g47, g48])), (a5, .inr (2, [g49, g50, g51, .int k52, .int k53]))] s.heap := hP
  have hl := lv_entry ([.ref a0, .int k1]) (n := 2) (Nat.le_of_ble_eq_true rfl)
  rw [lg_entry_eq]
  generalize (lg_sl ([.ref a0, .int k1]) ++ List.replicate (2 - (lg_sl ([.ref a0, .int k1])).length) Slot.unset).toArray = ls at hl ⊢
  have hl : lv_has ls 2 [(0, .ref a0), (1, .int k1)] := hl
  refine lv_iload_n hx hb dX10_size_0 rfl (lv_at hl 1 rfl) ?_
  rcases (show k1 = 0 ∨ k1 = 1 ∨ k1 = 2 ∨ k1 = 3 ∨ k1 = 4 ∨ k1 = 5 ∨ k1 = 6 ∨ k1 = 7 ∨ k1 = 8 ∨ k1 = 9 ∨ k1 = 10 ∨ k1 = 11 ∨ (k1 < 0 ∨ 11 < k1) from (by simp only [fa_lt, fa_eq, ltv_0, ltv_1, ltv_2, ltv_3, ltv_4, ltv_5, ltv_6, ltv_7, ltv_8, ltv_9, ltv_10, ltv_11]; omega)) with rfl | rfl | rfl | rfl | rfl | rfl | rfl | rfl | rfl | rfl | rfl | rfl | c1
  · refine lv_tableIn (tgt := 64) hx hb dX10_size_1 (by decide) (by decide) rfl (by decide) ?_
    refine lv_aload_n hx hb dX10_size_64 rfl (lv_at hl 0 rfl) ?_
    refine va_get (D := (dC, dI)) (ci := 7) (v := .ref a2) (C := RX10) (T := TX10) (N := 10) hx hb hts iX10_size_X10 hown hK hP 0 rfl rfl 0 (by decide) (hts (.fieldLink RX10 10 "HookPier" "plan" "LHookPier$Plan;") (List.mem_of_getElem? (i := 1) rfl)) (fun _ h9 => h9) rfl dX10_size_65 ?_
    refine va_get (D := (dC, dI)) (ci := 4) (v := .int k12) (C := RX6) (T := TX6) (N := 18) hx hb hts iX10_size_X6 hown hK hP 1 rfl rfl 0 (by decide) (hts (.fieldLink RX10 233 "HookPier$Plan" "spots" "I") (List.mem_of_getElem? (i := 2) rfl)) (fun _ h9 => h9) rfl dX10_size_68 ?_
    have hP9 := hP.sub (ws' := [(a0, .inr (7, [.ref a2, g6, .ref a3, .ref a4, .ref a5, g7, g8, g9, g10, g11])), (a2, .inr (4, [.int k12, .int k13, g14, g15, .int k16, .int k17, .int k18, .int k19, g20, g21, g22, g23, g24, g25, g26, g27, g28, g29])), (a3, .inr (5, [g30, .int k31, g32, g33, g34, g35, g36, g37, g38, g39, g40, g41])), (a4, .inr (3, [.int k42, .int k43, .int k44, g45, g46, g47, g48])), (a5, .inr (2, [g49, g50, g51, .int k52, .int k53]))]) [0, 1, 2, 3, 4] rfl
    have hD9 := hD.sub (ws' := [(a0, .inr (7, [.ref a2, g6, .ref a3, .ref a4, .ref a5, g7, g8, g9, g10, g11])), (a2, .inr (4, [.int k12, .int k13, g14, g15, .int k16, .int k17, .int k18, .int k19, g20, g21, g22, g23, g24, g25, g26, g27, g28, g29])), (a3, .inr (5, [g30, .int k31, g32, g33, g34, g35, g36, g37, g38, g39, g40, g41])), (a4, .inr (3, [.int k42, .int k43, .int k44, g45, g46, g47, g48])), (a5, .inr (2, [g49, g50, g51, .int k52, .int k53]))]) [0, 1, 2, 3, 4] (by decide) rfl
    have hK9 := hK.sub (tys' := []) [] rfl
    exact W.iret (v := k12) hx hb hr (fun t ht hW => ⟨⟨k12, (), rfl, trivial, by rw [ht]; exact hP9, va_K.moved hW.alike hK9, hD9⟩, hS.F ht⟩) hS.2.2 dX10_size_71
  · refine lv_tableIn (tgt := 72) hx hb dX10_size_1 (by decide) (by decide) rfl (by decide) ?_
    refine lv_aload_n hx hb dX10_size_72 rfl (lv_at hl 0 rfl) ?_
    refine va_get (D := (dC, dI)) (ci := 7) (v := .ref a2) (C := RX10) (T := TX10) (N := 10) hx hb hts iX10_size_X10 hown hK hP 0 rfl rfl 0 (by decide) (hts (.fieldLink RX10 10 "HookPier" "plan" "LHookPier$Plan;") (List.mem_of_getElem? (i := 1) rfl)) (fun _ h9 => h9) rfl dX10_size_73 ?_
    refine va_get (D := (dC, dI)) (ci := 4) (v := .int k13) (C := RX6) (T := TX6) (N := 18) hx hb hts iX10_size_X6 hown hK hP 1 rfl rfl 1 (by decide) (hts (.fieldLink RX10 378 "HookPier$Plan" "deep" "I") (List.mem_of_getElem? (i := 3) rfl)) (fun _ h9 => h9) rfl dX10_size_76 ?_
    have hP9 := hP.sub (ws' := [(a0, .inr (7, [.ref a2, g6, .ref a3, .ref a4, .ref a5, g7, g8, g9, g10, g11])), (a2, .inr (4, [.int k12, .int k13, g14, g15, .int k16, .int k17, .int k18, .int k19, g20, g21, g22, g23, g24, g25, g26, g27, g28, g29])), (a3, .inr (5, [g30, .int k31, g32, g33, g34, g35, g36, g37, g38, g39, g40, g41])), (a4, .inr (3, [.int k42, .int k43, .int k44, g45, g46, g47, g48])), (a5, .inr (2, [g49, g50, g51, .int k52, .int k53]))]) [0, 1, 2, 3, 4] rfl
    have hD9 := hD.sub (ws' := [(a0, .inr (7, [.ref a2, g6, .ref a3, .ref a4, .ref a5, g7, g8, g9, g10, g11])), (a2, .inr (4, [.int k12, .int k13, g14, g15, .int k16, .int k17, .int k18, .int k19, g20, g21, g22, g23, g24, g25, g26, g27, g28, g29])), (a3, .inr (5, [g30, .int k31, g32, g33, g34, g35, g36, g37, g38, g39, g40, g41])), (a4, .inr (3, [.int k42, .int k43, .int k44, g45, g46, g47, g48])), (a5, .inr (2, [g49, g50, g51, .int k52, .int k53]))]) [0, 1, 2, 3, 4] (by decide) rfl
    have hK9 := hK.sub (tys' := []) [] rfl
    exact W.iret (v := k13) hx hb hr (fun t ht hW => ⟨⟨k13, (), rfl, trivial, by rw [ht]; exact hP9, va_K.moved hW.alike hK9, hD9⟩, hS.F ht⟩) hS.2.2 dX10_size_79
  · refine lv_tableIn (tgt := 80) hx hb dX10_size_1 (by decide) (by decide) rfl (by decide) ?_
    refine lv_aload_n hx hb dX10_size_80 rfl (lv_at hl 0 rfl) ?_
    refine va_get (D := (dC, dI)) (ci := 7) (v := .ref a2) (C := RX10) (T := TX10) (N := 10) hx hb hts iX10_size_X10 hown hK hP 0 rfl rfl 0 (by decide) (hts (.fieldLink RX10 10 "HookPier" "plan" "LHookPier$Plan;") (List.mem_of_getElem? (i := 1) rfl)) (fun _ h9 => h9) rfl dX10_size_81 ?_
    refine va_get (D := (dC, dI)) (ci := 4) (v := .int k16) (C := RX6) (T := TX6) (N := 18) hx hb hts iX10_size_X6 hown hK hP 1 rfl rfl 4 (by decide) (hts (.fieldLink RX10 224 "HookPier$Plan" "baits" "I") (List.mem_of_getElem? (i := 4) rfl)) (fun _ h9 => h9) rfl dX10_size_84 ?_
    have hP9 := hP.sub (ws' := [(a0, .inr (7, [.ref a2, g6, .ref a3, .ref a4, .ref a5, g7, g8, g9, g10, g11])), (a2, .inr (4, [.int k12, .int k13, g14, g15, .int k16, .int k17, .int k18, .int k19, g20, g21, g22, g23, g24, g25, g26, g27, g28, g29])), (a3, .inr (5, [g30, .int k31, g32, g33, g34, g35, g36, g37, g38, g39, g40, g41])), (a4, .inr (3, [.int k42, .int k43, .int k44, g45, g46, g47, g48])), (a5, .inr (2, [g49, g50, g51, .int k52, .int k53]))]) [0, 1, 2, 3, 4] rfl
    have hD9 := hD.sub (ws' := [(a0, .inr (7, [.ref a2, g6, .ref a3, .ref a4, .ref a5, g7, g8, g9, g10, g11])), (a2, .inr (4, [.int k12, .int k13, g14, g15, .int k16, .int k17, .int k18, .int k19, g20, g21, g22, g23, g24, g25, g26, g27, g28, g29])), (a3, .inr (5, [g30, .int k31, g32, g33, g34, g35, g36, g37, g38, g39, g40, g41])), (a4, .inr (3, [.int k42, .int k43, .int k44, g45, g46, g47, g48])), (a5, .inr (2, [g49, g50, g51, .int k52, .int k53]))]) [0, 1, 2, 3, 4] (by decide) rfl
    have hK9 := hK.sub (tys' := []) [] rfl
    exact W.iret (v := k16) hx hb hr (fun t ht hW => ⟨⟨k16, (), rfl, trivial, by rw [ht]; exact hP9, va_K.moved hW.alike hK9, hD9⟩, hS.F ht⟩) hS.2.2 dX10_size_87
  · refine lv_tableIn (tgt := 88) hx hb dX10_size_1 (by decide) (by decide) rfl (by decide) ?_
    refine lv_aload_n hx hb dX10_size_88 rfl (lv_at hl 0 rfl) ?_
    refine va_get (D := (dC, dI)) (ci := 7) (v := .ref a2) (C := RX10) (T := TX10) (N := 10) hx hb hts iX10_size_X10 hown hK hP 0 rfl rfl 0 (by decide) (hts (.fieldLink RX10 10 "HookPier" "plan" "LHookPier$Plan;") (List.mem_of_getElem? (i := 1) rfl)) (fun _ h9 => h9) rfl dX10_size_89 ?_
    refine va_get (D := (dC, dI)) (ci := 4) (v := .int k17) (C := RX6) (T := TX6) (N := 18) hx hb hts iX10_size_X6 hown hK hP 1 rfl rfl 5 (by decide) (hts (.fieldLink RX10 246 "HookPier$Plan" "askers" "I") (List.mem_of_getElem? (i := 5) rfl)) (fun _ h9 => h9) rfl dX10_size_92 ?_
    have hP9 := hP.sub (ws' := [(a0, .inr (7, [.ref a2, g6, .ref a3, .ref a4, .ref a5, g7, g8, g9, g10, g11])), (a2, .inr (4, [.int k12, .int k13, g14, g15, .int k16, .int k17, .int k18, .int k19, g20, g21, g22, g23, g24, g25, g26, g27, g28, g29])), (a3, .inr (5, [g30, .int k31, g32, g33, g34, g35, g36, g37, g38, g39, g40, g41])), (a4, .inr (3, [.int k42, .int k43, .int k44, g45, g46, g47, g48])), (a5, .inr (2, [g49, g50, g51, .int k52, .int k53]))]) [0, 1, 2, 3, 4] rfl
    have hD9 := hD.sub (ws' := [(a0, .inr (7, [.ref a2, g6, .ref a3, .ref a4, .ref a5, g7, g8, g9, g10, g11])), (a2, .inr (4, [.int k12, .int k13, g14, g15, .int k16, .int k17, .int k18, .int k19, g20, g21, g22, g23, g24, g25, g26, g27, g28, g29])), (a3, .inr (5, [g30, .int k31, g32, g33, g34, g35, g36, g37, g38, g39, g40, g41])), (a4, .inr (3, [.int k42, .int k43, .int k44, g45, g46, g47, g48])), (a5, .inr (2, [g49, g50, g51, .int k52, .int k53]))]) [0, 1, 2, 3, 4] (by decide) rfl
    have hK9 := hK.sub (tys' := []) [] rfl
    exact W.iret (v := k17) hx hb hr (fun t ht hW => ⟨⟨k17, (), rfl, trivial, by rw [ht]; exact hP9, va_K.moved hW.alike hK9, hD9⟩, hS.F ht⟩) hS.2.2 dX10_size_95
  · refine lv_tableIn (tgt := 96) hx hb dX10_size_1 (by decide) (by decide) rfl (by decide) ?_
    refine lv_aload_n hx hb dX10_size_96 rfl (lv_at hl 0 rfl) ?_
    refine va_get (D := (dC, dI)) (ci := 7) (v := .ref a2) (C := RX10) (T := TX10) (N := 10) hx hb hts iX10_size_X10 hown hK hP 0 rfl rfl 0 (by decide) (hts (.fieldLink RX10 10 "HookPier" "plan" "LHookPier$Plan;") (List.mem_of_getElem? (i := 1) rfl)) (fun _ h9 => h9) rfl dX10_size_97 ?_
    refine va_get (D := (dC, dI)) (ci := 4) (v := .int k18) (C := RX6) (T := TX6) (N := 18) hx hb hts iX10_size_X6 hown hK hP 1 rfl rfl 6 (by decide) (hts (.fieldLink RX10 96 "HookPier$Plan" "answers" "I") (List.mem_of_getElem? (i := 6) rfl)) (fun _ h9 => h9) rfl dX10_size_100 ?_
    have hP9 := hP.sub (ws' := [(a0, .inr (7, [.ref a2, g6, .ref a3, .ref a4, .ref a5, g7, g8, g9, g10, g11])), (a2, .inr (4, [.int k12, .int k13, g14, g15, .int k16, .int k17, .int k18, .int k19, g20, g21, g22, g23, g24, g25, g26, g27, g28, g29])), (a3, .inr (5, [g30, .int k31, g32, g33, g34, g35, g36, g37, g38, g39, g40, g41])), (a4, .inr (3, [.int k42, .int k43, .int k44, g45, g46, g47, g48])), (a5, .inr (2, [g49, g50, g51, .int k52, .int k53]))]) [0, 1, 2, 3, 4] rfl
    have hD9 := hD.sub (ws' := [(a0, .inr (7, [.ref a2, g6, .ref a3, .ref a4, .ref a5, g7, g8, g9, g10, g11])), (a2, .inr (4, [.int k12, .int k13, g14, g15, .int k16, .int k17, .int k18, .int k19, g20, g21, g22, g23, g24, g25, g26, g27, g28, g29])), (a3, .inr (5, [g30, .int k31, g32, g33, g34, g35, g36, g37, g38, g39, g40, g41])), (a4, .inr (3, [.int k42, .int k43, .int k44, g45, g46, g47, g48])), (a5, .inr (2, [g49, g50, g51, .int k52, .int k53]))]) [0, 1, 2, 3, 4] (by decide) rfl
    have hK9 := hK.sub (tys' := []) [] rfl
    exact W.iret (v := k18) hx hb hr (fun t ht hW => ⟨⟨k18, (), rfl, trivial, by rw [ht]; exact hP9, va_K.moved hW.alike hK9, hD9⟩, hS.F ht⟩) hS.2.2 dX10_size_103
  · refine lv_tableIn (tgt := 104) hx hb dX10_size_1 (by decide) (by decide) rfl (by decide) ?_
    refine lv_aload_n hx hb dX10_size_104 rfl (lv_at hl 0 rfl) ?_
    refine va_get (D := (dC, dI)) (ci := 7) (v := .ref a2) (C := RX10) (T := TX10) (N := 10) hx hb hts iX10_size_X10 hown hK hP 0 rfl rfl 0 (by decide) (hts (.fieldLink RX10 10 "HookPier" "plan" "LHookPier$Plan;") (List.mem_of_getElem? (i := 1) rfl)) (fun _ h9 => h9) rfl dX10_size_105 ?_
    refine va_get (D := (dC, dI)) (ci := 4) (v := .int k19) (C := RX6) (T := TX6) (N := 18) hx hb hts iX10_size_X6 hown hK hP 1 rfl rfl 7 (by decide) (hts (.fieldLink RX10 284 "HookPier$Plan" "bites" "I") (List.mem_of_getElem? (i := 7) rfl)) (fun _ h9 => h9) rfl dX10_size_108 ?_
    have hP9 := hP.sub (ws' := [(a0, .inr (7, [.ref a2, g6, .ref a3, .ref a4, .ref a5, g7, g8, g9, g10, g11])), (a2, .inr (4, [.int k12, .int k13, g14, g15, .int k16, .int k17, .int k18, .int k19, g20, g21, g22, g23, g24, g25, g26, g27, g28, g29])), (a3, .inr (5, [g30, .int k31, g32, g33, g34, g35, g36, g37, g38, g39, g40, g41])), (a4, .inr (3, [.int k42, .int k43, .int k44, g45, g46, g47, g48])), (a5, .inr (2, [g49, g50, g51, .int k52, .int k53]))]) [0, 1, 2, 3, 4] rfl
    have hD9 := hD.sub (ws' := [(a0, .inr (7, [.ref a2, g6, .ref a3, .ref a4, .ref a5, g7, g8, g9, g10, g11])), (a2, .inr (4, [.int k12, .int k13, g14, g15, .int k16, .int k17, .int k18, .int k19, g20, g21, g22, g23, g24, g25, g26, g27, g28, g29])), (a3, .inr (5, [g30, .int k31, g32, g33, g34, g35, g36, g37, g38, g39, g40, g41])), (a4, .inr (3, [.int k42, .int k43, .int k44, g45, g46, g47, g48])), (a5, .inr (2, [g49, g50, g51, .int k52, .int k53]))]) [0, 1, 2, 3, 4] (by decide) rfl
    have hK9 := hK.sub (tys' := []) [] rfl
    exact W.iret (v := k19) hx hb hr (fun t ht hW => ⟨⟨k19, (), rfl, trivial, by rw [ht]; exact hP9, va_K.moved hW.alike hK9, hD9⟩, hS.F ht⟩) hS.2.2 dX10_size_111
  · refine lv_tableIn (tgt := 112) hx hb dX10_size_1 (by decide) (by decide) rfl (by decide) ?_
    refine lv_aload_n hx hb dX10_size_112 rfl (lv_at hl 0 rfl) ?_
    refine va_get (D := (dC, dI)) (ci := 7) (v := .ref a4) (C := RX10) (T := TX10) (N := 10) hx hb hts iX10_size_X10 hown hK hP 0 rfl rfl 3 (by decide) (hts (.fieldLink RX10 29 "HookPier" "now" "LHookPier$Now;") (List.mem_of_getElem? (i := 8) rfl)) (fun _ h9 => h9) rfl dX10_size_113 ?_
    refine va_get (D := (dC, dI)) (ci := 3) (v := .int k42) (C := RX4) (T := TX4) (N := 7) hx hb hts iX10_size_X4 hown hK hP 3 rfl rfl 0 (by decide) (hts (.fieldLink RX10 134 "HookPier$Now" "today" "I") (List.mem_of_getElem? (i := 9) rfl)) (fun _ h9 => h9) rfl dX10_size_116 ?_
    have hP9 := hP.sub (ws' := [(a0, .inr (7, [.ref a2, g6, .ref a3, .ref a4, .ref a5, g7, g8, g9, g10, g11])), (a2, .inr (4, [.int k12, .int k13, g14, g15, .int k16, .int k17, .int k18, .int k19, g20, g21, g22, g23, g24, g25, g26, g27, g28, g29])), (a3, .inr (5, [g30, .int k31, g32, g33, g34, g35, g36, g37, g38, g39, g40, g41])), (a4, .inr (3, [.int k42, .int k43, .int k44, g45, g46, g47, g48])), (a5, .inr (2, [g49, g50, g51, .int k52, .int k53]))]) [0, 1, 2, 3, 4] rfl
    have hD9 := hD.sub (ws' := [(a0, .inr (7, [.ref a2, g6, .ref a3, .ref a4, .ref a5, g7, g8, g9, g10, g11])), (a2, .inr (4, [.int k12, .int k13, g14, g15, .int k16, .int k17, .int k18, .int k19, g20, g21, g22, g23, g24, g25, g26, g27, g28, g29])), (a3, .inr (5, [g30, .int k31, g32, g33, g34, g35, g36, g37, g38, g39, g40, g41])), (a4, .inr (3, [.int k42, .int k43, .int k44, g45, g46, g47, g48])), (a5, .inr (2, [g49, g50, g51, .int k52, .int k53]))]) [0, 1, 2, 3, 4] (by decide) rfl
    have hK9 := hK.sub (tys' := []) [] rfl
    exact W.iret (v := k42) hx hb hr (fun t ht hW => ⟨⟨k42, (), rfl, trivial, by rw [ht]; exact hP9, va_K.moved hW.alike hK9, hD9⟩, hS.F ht⟩) hS.2.2 dX10_size_119
  · refine lv_tableIn (tgt := 120) hx hb dX10_size_1 (by decide) (by decide) rfl (by decide) ?_
    refine lv_aload_n hx hb dX10_size_120 rfl (lv_at hl 0 rfl) ?_
    refine va_get (D := (dC, dI)) (ci := 7) (v := .ref a4) (C := RX10) (T := TX10) (N := 10) hx hb hts iX10_size_X10 hown hK hP 0 rfl rfl 3 (by decide) (hts (.fieldLink RX10 29 "HookPier" "now" "LHookPier$Now;") (List.mem_of_getElem? (i := 8) rfl)) (fun _ h9 => h9) rfl dX10_size_121 ?_
    refine va_get (D := (dC, dI)) (ci := 3) (v := .int k43) (C := RX4) (T := TX4) (N := 7) hx hb hts iX10_size_X4 hown hK hP 3 rfl rfl 1 (by decide) (hts (.fieldLink RX10 351 "HookPier$Now" "seedNow" "I") (List.mem_of_getElem? (i := 10) rfl)) (fun _ h9 => h9) rfl dX10_size_124 ?_
    have hP9 := hP.sub (ws' := [(a0, .inr (7, [.ref a2, g6, .ref a3, .ref a4, .ref a5, g7, g8, g9, g10, g11])), (a2, .inr (4, [.int k12, .int k13, g14, g15, .int k16, .int k17, .int k18, .int k19, g20, g21, g22, g23, g24, g25, g26, g27, g28, g29])), (a3, .inr (5, [g30, .int k31, g32, g33, g34, g35, g36, g37, g38, g39, g40, g41])), (a4, .inr (3, [.int k42, .int k43, .int k44, g45, g46, g47, g48])), (a5, .inr (2, [g49, g50, g51, .int k52, .int k53]))]) [0, 1, 2, 3, 4] rfl
    have hD9 := hD.sub (ws' := [(a0, .inr (7, [.ref a2, g6, .ref a3, .ref a4, .ref a5, g7, g8, g9, g10, g11])), (a2, .inr (4, [.int k12, .int k13, g14, g15, .int k16, .int k17, .int k18, .int k19, g20, g21, g22, g23, g24, g25, g26, g27, g28, g29])), (a3, .inr (5, [g30, .int k31, g32, g33, g34, g35, g36, g37, g38, g39, g40, g41])), (a4, .inr (3, [.int k42, .int k43, .int k44, g45, g46, g47, g48])), (a5, .inr (2, [g49, g50, g51, .int k52, .int k53]))]) [0, 1, 2, 3, 4] (by decide) rfl
    have hK9 := hK.sub (tys' := []) [] rfl
    exact W.iret (v := k43) hx hb hr (fun t ht hW => ⟨⟨k43, (), rfl, trivial, by rw [ht]; exact hP9, va_K.moved hW.alike hK9, hD9⟩, hS.F ht⟩) hS.2.2 dX10_size_127
  · refine lv_tableIn (tgt := 128) hx hb dX10_size_1 (by decide) (by decide) rfl (by decide) ?_
    refine lv_aload_n hx hb dX10_size_128 rfl (lv_at hl 0 rfl) ?_
    refine va_get (D := (dC, dI)) (ci := 7) (v := .ref a4) (C := RX10) (T := TX10) (N := 10) hx hb hts iX10_size_X10 hown hK hP 0 rfl rfl 3 (by decide) (hts (.fieldLink RX10 29 "HookPier" "now" "LHookPier$Now;") (List.mem_of_getElem? (i := 8) rfl)) (fun _ h9 => h9) rfl dX10_size_129 ?_
    refine va_get (D := (dC, dI)) (ci := 3) (v := .int k44) (C := RX4) (T := TX4) (N := 7) hx hb hts iX10_size_X4 hown hK hP 3 rfl rfl 2 (by decide) (hts (.fieldLink RX10 344 "HookPier$Now" "soldFor" "I") (List.mem_of_getElem? (i := 11) rfl)) (fun _ h9 => h9) rfl dX10_size_132 ?_
    have hP9 := hP.sub (ws' := [(a0, .inr (7, [.ref a2, g6, .ref a3, .ref a4, .ref a5, g7, g8, g9, g10, g11])), (a2, .inr (4, [.int k12, .int k13, g14, g15, .int k16, .int k17, .int k18, .int k19, g20, g21, g22, g23, g24, g25, g26, g27, g28, g29])), (a3, .inr (5, [g30, .int k31, g32, g33, g34, g35, g36, g37, g38, g39, g40, g41])), (a4, .inr (3, [.int k42, .int k43, .int k44, g45, g46, g47, g48])), (a5, .inr (2, [g49, g50, g51, .int k52, .int k53]))]) [0, 1, 2, 3, 4] rfl
    have hD9 := hD.sub (ws' := [(a0, .inr (7, [.ref a2, g6, .ref a3, .ref a4, .ref a5, g7, g8, g9, g10, g11])), (a2, .inr (4, [.int k12, .int k13, g14, g15, .int k16, .int k17, .int k18, .int k19, g20, g21, g22, g23, g24, g25, g26, g27, g28, g29])), (a3, .inr (5, [g30, .int k31, g32, g33, g34, g35, g36, g37, g38, g39, g40, g41])), (a4, .inr (3, [.int k42, .int k43, .int k44, g45, g46, g47, g48])), (a5, .inr (2, [g49, g50, g51, .int k52, .int k53]))]) [0, 1, 2, 3, 4] (by decide) rfl
    have hK9 := hK.sub (tys' := []) [] rfl
    exact W.iret (v := k44) hx hb hr (fun t ht hW => ⟨⟨k44, (), rfl, trivial, by rw [ht]; exact hP9, va_K.moved hW.alike hK9, hD9⟩, hS.F ht⟩) hS.2.2 dX10_size_135
  · refine lv_tableIn (tgt := 136) hx hb dX10_size_1 (by decide) (by decide) rfl (by decide) ?_
    refine lv_aload_n hx hb dX10_size_136 rfl (lv_at hl 0 rfl) ?_
    refine va_get (D := (dC, dI)) (ci := 7) (v := .ref a5) (C := RX10) (T := TX10) (N := 10) hx hb hts iX10_size_X10 hown hK hP 0 rfl rfl 4 (by decide) (hts (.fieldLink RX10 36 "HookPier" "history" "LHookPier$History;") (List.mem_of_getElem? (i := 12) rfl)) (fun _ h9 => h9) rfl dX10_size_137 ?_
    refine va_get (D := (dC, dI)) (ci := 2) (v := .int k52) (C := RX2) (T := TX2) (N := 5) hx hb hts iX10_size_X2 hown hK hP 4 rfl rfl 3 (by decide) (hts (.fieldLink RX10 354 "HookPier$History" "acts" "I") (List.mem_of_getElem? (i := 13) rfl)) (fun _ h9 => h9) rfl dX10_size_140 ?_
    have hP9 := hP.sub (ws' := [(a0, .inr (7, [.ref a2, g6, .ref a3, .ref a4, .ref a5, g7, g8, g9, g10, g11])), (a2, .inr (4, [.int k12, .int k13, g14, g15, .int k16, .int k17, .int k18, .int k19, g20, g21, g22, g23, g24, g25, g26, g27, g28, g29])), (a3, .inr (5, [g30, .int k31, g32, g33, g34, g35, g36, g37, g38, g39, g40, g41])), (a4, .inr (3, [.int k42, .int k43, .int k44, g45, g46, g47, g48])), (a5, .inr (2, [g49, g50, g51, .int k52, .int k53]))]) [0, 1, 2, 3, 4] rfl
    have hD9 := hD.sub (ws' := [(a0, .inr (7, [.ref a2, g6, .ref a3, .ref a4, .ref a5, g7, g8, g9, g10, g11])), (a2, .inr (4, [.int k12, .int k13, g14, g15, .int k16, .int k17, .int k18, .int k19, g20, g21, g22, g23, g24, g25, g26, g27, g28, g29])), (a3, .inr (5, [g30, .int k31, g32, g33, g34, g35, g36, g37, g38, g39, g40, g41])), (a4, .inr (3, [.int k42, .int k43, .int k44, g45, g46, g47, g48])), (a5, .inr (2, [g49, g50, g51, .int k52, .int k53]))]) [0, 1, 2, 3, 4] (by decide) rfl
    have hK9 := hK.sub (tys' := []) [] rfl
    exact W.iret (v := k52) hx hb hr (fun t ht hW => ⟨⟨k52, (), rfl, trivial, by rw [ht]; exact hP9, va_K.moved hW.alike hK9, hD9⟩, hS.F ht⟩) hS.2.2 dX10_size_143
  · refine lv_tableIn (tgt := 144) hx hb dX10_size_1 (by decide) (by decide) rfl (by decide) ?_
    refine lv_aload_n hx hb dX10_size_144 rfl (lv_at hl 0 rfl) ?_
    refine va_get (D := (dC, dI)) (ci := 7) (v := .ref a5) (C := RX10) (T := TX10) (N := 10) hx hb hts iX10_size_X10 hown hK hP 0 rfl rfl 4 (by decide) (hts (.fieldLink RX10 36 "HookPier" "history" "LHookPier$History;") (List.mem_of_getElem? (i := 12) rfl)) (fun _ h9 => h9) rfl dX10_size_145 ?_
    refine va_get (D := (dC, dI)) (ci := 2) (v := .int k53) (C := RX2) (T := TX2) (N := 5) hx hb hts iX10_size_X2 hown hK hP 4 rfl rfl 4 (by decide) (hts (.fieldLink RX10 360 "HookPier$History" "marks" "I") (List.mem_of_getElem? (i := 14) rfl)) (fun _ h9 => h9) rfl dX10_size_148 ?_
    have hP9 := hP.sub (ws' := [(a0, .inr (7, [.ref a2, g6, .ref a3, .ref a4, .ref a5, g7, g8, g9, g10, g11])), (a2, .inr (4, [.int k12, .int k13, g14, g15, .int k16, .int k17, .int k18, .int k19, g20, g21, g22, g23, g24, g25, g26, g27, g28, g29])), (a3, .inr (5, [g30, .int k31, g32, g33, g34, g35, g36, g37, g38, g39, g40, g41])), (a4, .inr (3, [.int k42, .int k43, .int k44, g45, g46, g47, g48])), (a5, .inr (2, [g49, g50, g51, .int k52, .int k53]))]) [0, 1, 2, 3, 4] rfl
    have hD9 := hD.sub (ws' := [(a0, .inr (7, [.ref a2, g6, .ref a3, .ref a4, .ref a5, g7, g8, g9, g10, g11])), (a2, .inr (4, [.int k12, .int k13, g14, g15, .int k16, .int k17, .int k18, .int k19, g20, g21, g22, g23, g24, g25, g26, g27, g28, g29])), (a3, .inr (5, [g30, .int k31, g32, g33, g34, g35, g36, g37, g38, g39, g40, g41])), (a4, .inr (3, [.int k42, .int k43, .int k44, g45, g46, g47, g48])), (a5, .inr (2, [g49, g50, g51, .int k52, .int k53]))]) [0, 1, 2, 3, 4] (by decide) rfl
    have hK9 := hK.sub (tys' := []) [] rfl
    exact W.iret (v := k53) hx hb hr (fun t ht hW => ⟨⟨k53, (), rfl, trivial, by rw [ht]; exact hP9, va_K.moved hW.alike hK9, hD9⟩, hS.F ht⟩) hS.2.2 dX10_size_151
  · refine lv_tableIn (tgt := 152) hx hb dX10_size_1 (by decide) (by decide) rfl (by decide) ?_
    refine lv_aload_n hx hb dX10_size_152 rfl (lv_at hl 0 rfl) ?_
    refine va_get (D := (dC, dI)) (ci := 7) (v := .ref a3) (C := RX10) (T := TX10) (N := 10) hx hb hts iX10_size_X10 hown hK hP 0 rfl rfl 2 (by decide) (hts (.fieldLink RX10 22 "HookPier" "reader" "LHookPier$Reader;") (List.mem_of_getElem? (i := 15) rfl)) (fun _ h9 => h9) rfl dX10_size_153 ?_
    refine va_get (D := (dC, dI)) (ci := 5) (v := .int k31) (C := RX7) (T := TX7) (N := 12) hx hb hts iX10_size_X7 hown hK hP 2 rfl rfl 1 (by decide) (hts (.fieldLink RX10 68 "HookPier$Reader" "fed" "I") (List.mem_of_getElem? (i := 16) rfl)) (fun _ h9 => h9) rfl dX10_size_156 ?_
    have hP9 := hP.sub (ws' := [(a0, .inr (7, [.ref a2, g6, .ref a3, .ref a4, .ref a5, g7, g8, g9, g10, g11])), (a2, .inr (4, [.int k12, .int k13, g14, g15, .int k16, .int k17, .int k18, .int k19, g20, g21, g22, g23, g24, g25, g26, g27, g28, g29])), (a3, .inr (5, [g30, .int k31, g32, g33, g34, g35, g36, g37, g38, g39, g40, g41])), (a4, .inr (3, [.int k42, .int k43, .int k44, g45, g46, g47, g48])), (a5, .inr (2, [g49, g50, g51, .int k52, .int k53]))]) [0, 1, 2, 3, 4] rfl
    have hD9 := hD.sub (ws' := [(a0, .inr (7, [.ref a2, g6, .ref a3, .ref a4, .ref a5, g7, g8, g9, g10, g11])), (a2, .inr (4, [.int k12, .int k13, g14, g15, .int k16, .int k17, .int k18, .int k19, g20, g21, g22, g23, g24, g25, g26, g27, g28, g29])), (a3, .inr (5, [g30, .int k31, g32, g33, g34, g35, g36, g37, g38, g39, g40, g41])), (a4, .inr (3, [.int k42, .int k43, .int k44, g45, g46, g47, g48])), (a5, .inr (2, [g49, g50, g51, .int k52, .int k53]))]) [0, 1, 2, 3, 4] (by decide) rfl
    have hK9 := hK.sub (tys' := []) [] rfl
    exact W.iret (v := k31) hx hb hr (fun t ht hW => ⟨⟨k31, (), rfl, trivial, by rw [ht]; exact hP9, va_K.moved hW.alike hK9, hD9⟩, hS.F ht⟩) hS.2.2 dX10_size_159
  · refine lv_tableOut (tgt := 160) hx hb dX10_size_1 (by simp only [fa_lt, ltv_0, ltv_1, ltv_2, ltv_3, ltv_4, ltv_5, ltv_6, ltv_7, ltv_8, ltv_9, ltv_10, ltv_11] at c1; omega) (by decide) ?_
    refine lv_iconst (v := (-1)) hx hb dX10_size_160 (by decide) ?_
    have hP9 := hP.sub (ws' := [(a0, .inr (7, [.ref a2, g6, .ref a3, .ref a4, .ref a5, g7, g8, g9, g10, g11])), (a2, .inr (4, [.int k12, .int k13, g14, g15, .int k16, .int k17, .int k18, .int k19, g20, g21, g22, g23, g24, g25, g26, g27, g28, g29])), (a3, .inr (5, [g30, .int k31, g32, g33, g34, g35, g36, g37, g38, g39, g40, g41])), (a4, .inr (3, [.int k42, .int k43, .int k44, g45, g46, g47, g48])), (a5, .inr (2, [g49, g50, g51, .int k52, .int k53]))]) [0, 1, 2, 3, 4] rfl
    have hD9 := hD.sub (ws' := [(a0, .inr (7, [.ref a2, g6, .ref a3, .ref a4, .ref a5, g7, g8, g9, g10, g11])), (a2, .inr (4, [.int k12, .int k13, g14, g15, .int k16, .int k17, .int k18, .int k19, g20, g21, g22, g23, g24, g25, g26, g27, g28, g29])), (a3, .inr (5, [g30, .int k31, g32, g33, g34, g35, g36, g37, g38, g39, g40, g41])), (a4, .inr (3, [.int k42, .int k43, .int k44, g45, g46, g47, g48])), (a5, .inr (2, [g49, g50, g51, .int k52, .int k53]))]) [0, 1, 2, 3, 4] (by decide) rfl
    have hK9 := hK.sub (tys' := []) [] rfl
    exact W.iret (v := (-1)) hx hb hr (fun t ht hW => ⟨⟨(-1), (), rfl, trivial, by rw [ht]; exact hP9, va_K.moved hW.alike hK9, hD9⟩, hS.F ht⟩) hS.2.2 dX10_size_161
