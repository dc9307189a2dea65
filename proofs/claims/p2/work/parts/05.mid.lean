def RJ6 : String := "java/lang/Integer"
abbrev cJ6_bitCount_0f7a4 : ByteArray := prog_19_method_49_code
def yJ6_bitCount_0f7a4 : MethodName := ⟨RJ6, "bitCount", "(I)I"⟩
theorem dX4_begin_0 : decode cX4_begin 0 = .ok (.aload_n 0, 1) := by decide +kernel
theorem dX4_begin_1 : decode cX4_begin 1 = .ok (.iconst 0, 1) := by decide +kernel
theorem dX4_begin_10 : decode cX4_begin 10 = .ok (.aload_n 0, 1) := by decide +kernel
theorem dX4_begin_11 : decode cX4_begin 11 = .ok (.iconst 0, 1) := by decide +kernel
theorem dX4_begin_12 : decode cX4_begin 12 = .ok (.putfield 18, 3) := by decide +kernel
theorem dX4_begin_15 : decode cX4_begin 15 = .ok (.iconst 0, 1) := by decide +kernel
theorem dX4_begin_16 : decode cX4_begin 16 = .ok (.istore_n 1, 1) := by decide +kernel
theorem dX4_begin_17 : decode cX4_begin 17 = .ok (.iload_n 1, 1) := by decide +kernel
theorem dX4_begin_18 : decode cX4_begin 18 = .ok (.aload_n 0, 1) := by decide +kernel
theorem dX4_begin_19 : decode cX4_begin 19 = .ok (.getfield 21, 3) := by decide +kernel
theorem dX4_begin_2 : decode cX4_begin 2 = .ok (.putfield 9, 3) := by decide +kernel
theorem dX4_begin_22 : decode cX4_begin 22 = .ok (.arraylength, 1) := by decide +kernel
theorem dX4_begin_23 : decode cX4_begin 23 = .ok (.if_icmp .ge 16, 3) := by decide +kernel
theorem dX4_begin_26 : decode cX4_begin 26 = .ok (.aload_n 0, 1) := by decide +kernel
theorem dX4_begin_27 : decode cX4_begin 27 = .ok (.getfield 21, 3) := by decide +kernel
theorem dX4_begin_30 : decode cX4_begin 30 = .ok (.iload_n 1, 1) := by decide +kernel
theorem dX4_begin_31 : decode cX4_begin 31 = .ok (.iconst 0, 1) := by decide +kernel
theorem dX4_begin_32 : decode cX4_begin 32 = .ok (.iastore, 1) := by decide +kernel
theorem dX4_begin_33 : decode cX4_begin 33 = .ok (.iinc 1 1, 3) := by decide +kernel
theorem dX4_begin_36 : decode cX4_begin 36 = .ok (.goto (-19), 3) := by decide +kernel
theorem dX4_begin_39 : decode cX4_begin 39 = .ok (.iconst 0, 1) := by decide +kernel
theorem dX4_begin_40 : decode cX4_begin 40 = .ok (.istore_n 1, 1) := by decide +kernel
theorem dX4_begin_41 : decode cX4_begin 41 = .ok (.iload_n 1, 1) := by decide +kernel
theorem dX4_begin_42 : decode cX4_begin 42 = .ok (.aload_n 0, 1) := by decide +kernel
theorem dX4_begin_43 : decode cX4_begin 43 = .ok (.getfield 31, 3) := by decide +kernel
theorem dX4_begin_46 : decode cX4_begin 46 = .ok (.arraylength, 1) := by decide +kernel
theorem dX4_begin_47 : decode cX4_begin 47 = .ok (.if_icmp .ge 16, 3) := by decide +kernel
theorem dX4_begin_5 : decode cX4_begin 5 = .ok (.aload_n 0, 1) := by decide +kernel
theorem dX4_begin_50 : decode cX4_begin 50 = .ok (.aload_n 0, 1) := by decide +kernel
theorem dX4_begin_51 : decode cX4_begin 51 = .ok (.getfield 31, 3) := by decide +kernel
theorem dX4_begin_54 : decode cX4_begin 54 = .ok (.iload_n 1, 1) := by decide +kernel
theorem dX4_begin_55 : decode cX4_begin 55 = .ok (.iconst (-1), 1) := by decide +kernel
theorem dX4_begin_56 : decode cX4_begin 56 = .ok (.iastore, 1) := by decide +kernel
theorem dX4_begin_57 : decode cX4_begin 57 = .ok (.iinc 1 1, 3) := by decide +kernel
theorem dX4_begin_6 : decode cX4_begin 6 = .ok (.iconst 0, 1) := by decide +kernel
theorem dX4_begin_60 : decode cX4_begin 60 = .ok (.goto (-19), 3) := by decide +kernel
theorem dX4_begin_63 : decode cX4_begin 63 = .ok (.return_, 1) := by decide +kernel
theorem dX4_begin_7 : decode cX4_begin 7 = .ok (.putfield 15, 3) := by decide +kernel
def vX4_begin : List Cond := .code yX4_begin cX4_begin 2 none :: ([.fieldLink RX4 9 "HookPier$Now" "today" "I", .fieldLink RX4 15 "HookPier$Now" "seedNow" "I", .fieldLink RX4 18 "HookPier$Now" "soldFor" "I", .fieldLink RX4 21 "HookPier$Now" "stage" "[I", .fieldLink RX4 31 "HookPier$Now" "line" "[I"] ++ wsX40)
theorem iX4_begin_X4 : ∀ w ∈ wsX40, w ∈ vX4_begin := fun _ h => List.mem_cons_of_mem _ (List.mem_append_right _ h)
set_option maxHeartbeats 2000000 in
set_option maxRecDepth 100000 in
theorem kX4_begin (l : Launch) (dC : Nat → ClassId) (dI : Nat → Nat → Nat) (a0 : Nat) (a1 : Nat) (a2 : Nat) (g3 : Value) (g4 : Value) (g5 : Value) (g6 : Value) (g7 : Value) (cB8 : ClassId) (f9 : Nat → Int32) (cB10 : ClassId) (f11 : Nat → Int32) (sz : Nat) : Met l yX4_begin vX4_begin ({ frames := 0, cells := 0, slots := 0, locals := 0 }) (PC (dC, dI) [.ref a0] sz [(a0, .inr (3, [g3, g4, g5, .ref a1, g6, g7, .ref a2])), (a1, .inl (cB8, 6, .inl f9)), (a2, .inl (cB10, 5, .inl f11))] [(cB8, .int), (cB10, .int)]) (va_Qv (S := (Nat → Int32) × (Nat → Int32)) (fun u => True) (fun u t => BC (dC, dI) (va_A [(a0, .inr (3, [g3, g4, g5, .ref a1, g6, g7, .ref a2])), (a1, .inl (cB8, 6, .inl f9)), (a2, .inl (cB10, 5, .inl f11))] sz) [(a0, .inr (3, [.int 0, .int 0, .int 0, .ref a1, g6, g7, .ref a2])), (a1, .inl (cB8, 6, .inl (u.1))), (a2, .inl (cB10, 5, .inl (u.2)))] [] t) (va_A [(a0, .inr (3, [g3, g4, g5, .ref a1, g6, g7, .ref a2])), (a1, .inl (cB8, 6, .inl f9)), (a2, .inl (cB10, 5, .inl f11))] sz)) 0 0 (va_A [(a0, .inr (3, [g3, g4, g5, .ref a1, g6, g7, .ref a2])), (a1, .inl (cB8, 6, .inl f9)), (a2, .inl (cB10, 5, .inl f11))] sz) := by
  refine Met.ofW (cc := cX4_begin) (maxL := 2) (ret := none) (by decide) rfl ?_
  intro p e s m args below meth c s₁ B hml hv
  obtain ⟨rfl, hsz, hP, hK, hD0, hN⟩ := hv
  have hx := B.exec
  have hb := B.bytes
  have hr := B.returns
  have hts := atoms_spec (ws := vX4_begin) B.pre
  have hown : s.vm.findClass RX4 = some m.cls := findClass_of_methodNamed B.named
  have hlocks := B.notSynchronized
  subst hsz
  have hD := hD0.self (sz := s.heap.size)
  generalize hAe : va_A [(a0, .inr (3, [g3, g4, g5, .ref a1, g6, g7, .ref a2])), (a1, .inl (cB8, 6, .inl f9)), (a2, .inl (cB10, 5, .inl f11))] s.heap.size = A at hD ⊢
  have hA : ∀ q : Nat, s.heap.size ≤ q → A q := fun q h => by rw [← hAe]; exact Or.inr h
  have hS : va_S A s.heap s.heap [] := va_S.rf
  have hP : va_P (dC, dI) vwCl [(a0, .inr (3, [g3, g4, g5, .ref a1, g6, g7, .ref a2])), (a1, .inl (cB8, 6, .inl f9)), (a2, .inl (cB10, 5, .inl f11))] s.heap := hP
  have hl := lv_entry ([.ref a0]) (n := 2) (Nat.le_of_ble_eq_true rfl)
  rw [lg_entry_eq]
  generalize (lg_sl ([.ref a0]) ++ List.replicate (2 - (lg_sl ([.ref a0])).length) Slot.unset).toArray = ls at hl ⊢
  have hl : lv_has ls 2 [(0, .ref a0)] := hl
  refine lv_aload_n hx hb dX4_begin_0 rfl (lv_at hl 0 rfl) ?_
  refine lv_iconst (v := 0) hx hb dX4_begin_1 (by decide) ?_
  refine va_put (D := (dC, dI)) (ci := 3) (v := .int 0) (ty := .int) (C := RX4) (T := TX4) (N := 7) hx hb hts iX4_begin_X4 tyX4 tyX4_ok nmX4 hown hK hP hD hS 0 rfl rfl 0 (by decide) (hts (.fieldLink RX4 9 "HookPier$Now" "today" "I") (List.mem_of_getElem? (i := 1) rfl)) (fun _ h9 => h9) rfl (by decide +kernel) rfl rfl (Nat.le_of_ble_eq_true rfl) dX4_begin_2 (fun H locs hP hD hS => ?_)
  have hP : va_P (dC, dI) vwCl [(a0, .inr (3, [.int 0, g4, g5, .ref a1, g6, g7, .ref a2])), (a1, .inl (cB8, 6, .inl f9)), (a2, .inl (cB10, 5, .inl f11))] H := hP
  have hD : va_D A [(a0, .inr (3, [.int 0, g4, g5, .ref a1, g6, g7, .ref a2])), (a1, .inl (cB8, 6, .inl f9)), (a2, .inl (cB10, 5, .inl f11))] := hD
  refine lv_aload_n hx hb dX4_begin_5 rfl (lv_at hl 0 rfl) ?_
  refine lv_iconst (v := 0) hx hb dX4_begin_6 (by decide) ?_
  refine va_put (D := (dC, dI)) (ci := 3) (v := .int 0) (ty := .int) (C := RX4) (T := TX4) (N := 7) hx hb hts iX4_begin_X4 tyX4 tyX4_ok nmX4 hown hK hP hD hS 0 rfl rfl 1 (by decide) (hts (.fieldLink RX4 15 "HookPier$Now" "seedNow" "I") (List.mem_of_getElem? (i := 2) rfl)) (fun _ h9 => h9) rfl (by decide +kernel) rfl rfl (Nat.le_of_ble_eq_true rfl) dX4_begin_7 (fun H locs hP hD hS => ?_)
  have hP : va_P (dC, dI) vwCl [(a0, .inr (3, [.int 0, .int 0, g5, .ref a1, g6, g7, .ref a2])), (a1, .inl (cB8, 6, .inl f9)), (a2, .inl (cB10, 5, .inl f11))] H := hP
  have hD : va_D A [(a0, .inr (3, [.int 0, .int 0, g5, .ref a1, g6, g7, .ref a2])), (a1, .inl (cB8, 6, .inl f9)), (a2, .inl (cB10, 5, .inl f11))] := hD
  refine lv_aload_n hx hb dX4_begin_10 rfl (lv_at hl 0 rfl) ?_
  refine lv_iconst (v := 0) hx hb dX4_begin_11 (by decide) ?_
  refine va_put (D := (dC, dI)) (ci := 3) (v := .int 0) (ty := .int) (C := RX4) (T := TX4) (N := 7) hx hb hts iX4_begin_X4 tyX4 tyX4_ok nmX4 hown hK hP hD hS 0 rfl rfl 2 (by decide) (hts (.fieldLink RX4 18 "HookPier$Now" "soldFor" "I") (List.mem_of_getElem? (i := 3) rfl)) (fun _ h9 => h9) rfl (by decide +kernel) rfl rfl (Nat.le_of_ble_eq_true rfl) dX4_begin_12 (fun H locs hP hD hS => ?_)
  have hP : va_P (dC, dI) vwCl [(a0, .inr (3, [.int 0, .int 0, .int 0, .ref a1, g6, g7, .ref a2])), (a1, .inl (cB8, 6, .inl f9)), (a2, .inl (cB10, 5, .inl f11))] H := hP
  have hD : va_D A [(a0, .inr (3, [.int 0, .int 0, .int 0, .ref a1, g6, g7, .ref a2])), (a1, .inl (cB8, 6, .inl f9)), (a2, .inl (cB10, 5, .inl f11))] := hD
  refine lv_iconst (v := 0) hx hb dX4_begin_15 (by decide) ?_
  refine lv_istore_n (lv' := [(1, .int 0), (0, .ref a0)]) hx hb dX4_begin_16 rfl hl (by decide) rfl (fun ls hl => ?_)
  have L17_43 : ∀ (n : Nat) (z41 : Int32) (f42 : Nat → Int32) (H : Heap) (locs : List Loc) (ls : Array Slot), (0 ≤ z41.toInt ∧ z41.toInt ≤ 6) → 6 - z41.toInt < (n : Int) → va_P (dC, dI) vwCl [(a0, .inr (3, [.int 0, .int 0, .int 0, .ref a1, g6, g7, .ref a2])), (a1, .inl (cB8, 6, .inl f42)), (a2, .inl (cB10, 5, .inl f11))] H → va_D A [(a0, .inr (3, [.int 0, .int 0, .int 0, .ref a1, g6, g7, .ref a2])), (a1, .inl (cB8, 6, .inl f42)), (a2, .inl (cB10, 5, .inl f11))] → va_S A s.heap H locs → lv_has ls 2 [(1, .int z41), (0, .ref a0)] → W p l e (headSpec vX4_begin { frames := 0, cells := 0, slots := 0, locals := 0 }).room s m ([.ref a0]).toArray below meth c H locs 0 0 (MQ below (va_Qv (S := (Nat → Int32) × (Nat → Int32)) (fun u => True) (fun u t => BC (dC, dI) A [(a0, .inr (3, [.int 0, .int 0, .int 0, .ref a1, g6, g7, .ref a2])), (a1, .inl (cB8, 6, .inl (u.1))), (a2, .inl (cB10, 5, .inl (u.2)))] [] t) A) ([.ref a0]).toArray s 0 0 A) (F0 m 17 ls []) := by
    intro n
    induction n with
    | zero =>
      intro z41 f42 H locs ls b17_0 hm _ _ _ _
      exact absurd hm (by omega)
    | succ n ih17 =>
      intro z41 f42 H locs ls b17_0 hm17 hP hD hS hl
      refine lv_iload_n hx hb dX4_begin_17 rfl (lv_at hl 0 rfl) ?_
      refine lv_aload_n hx hb dX4_begin_18 rfl (lv_at hl 1 rfl) ?_
      refine va_get (D := (dC, dI)) (ci := 3) (v := .ref a1) (C := RX4) (T := TX4) (N := 7) hx hb hts iX4_begin_X4 hown hK hP 0 rfl rfl 3 (by decide) (hts (.fieldLink RX4 21 "HookPier$Now" "stage" "[I") (List.mem_of_getElem? (i := 4) rfl)) (fun _ h9 => h9) rfl dX4_begin_19 ?_
      refine va_alen (v := 6) hx hb hK hP 1 0 rfl rfl rfl dX4_begin_22 ?_
      refine lv_icmp_ge (tgt := 39) hx hb dX4_begin_23 (by decide) (fun c44 => ?_) (fun c44 => ?_)
      · simp only [fa_lt, fa_le, fa_eq, ltv_0, ltv_6] at c44
        refine lv_iconst (v := 0) hx hb dX4_begin_39 (by decide) ?_
        refine lv_istore_n (lv' := [(1, .int 0), (0, .ref a0)]) hx hb dX4_begin_40 rfl hl (by decide) rfl (fun ls hl => ?_)
        have L41_64 : ∀ (n : Nat) (z62 : Int32) (f63 : Nat → Int32) (H : Heap) (locs : List Loc) (ls : Array Slot), (0 ≤ z62.toInt ∧ z62.toInt ≤ 5) → 5 - z62.toInt < (n : Int) → va_P (dC, dI) vwCl [(a0, .inr (3, [.int 0, .int 0, .int 0, .ref a1, g6, g7, .ref a2])), (a1, .inl (cB8, 6, .inl f42)), (a2, .inl (cB10, 5, .inl f63))] H → va_D A [(a0, .inr (3, [.int 0, .int 0, .int 0, .ref a1, g6, g7, .ref a2])), (a1, .inl (cB8, 6, .inl f42)), (a2, .inl (cB10, 5, .inl f63))] → va_S A s.heap H locs → lv_has ls 2 [(1, .int z62), (0, .ref a0)] → W p l e (headSpec vX4_begin { frames := 0, cells := 0, slots := 0, locals := 0 }).room s m ([.ref a0]).toArray below meth c H locs 0 0 (MQ below (va_Qv (S := (Nat → Int32) × (Nat → Int32)) (fun u => True) (fun u t => BC (dC, dI) A [(a0, .inr (3, [.int 0, .int 0, .int 0, .ref a1, g6, g7, .ref a2])), (a1, .inl (cB8, 6, .inl (u.1))), (a2, .inl (cB10, 5, .inl (u.2)))] [] t) A) ([.ref a0]).toArray s 0 0 A) (F0 m 41 ls []) := by
          intro n
          induction n with
          | zero =>
            intro z62 f63 H locs ls b41_0 hm _ _ _ _
            exact absurd hm (by omega)
          | succ n ih41 =>
            intro z62 f63 H locs ls b41_0 hm41 hP hD hS hl
            refine lv_iload_n hx hb dX4_begin_41 rfl (lv_at hl 0 rfl) ?_
            refine lv_aload_n hx hb dX4_begin_42 rfl (lv_at hl 1 rfl) ?_
            refine va_get (D := (dC, dI)) (ci := 3) (v := .ref a2) (C := RX4) (T := TX4) (N := 7) hx hb hts iX4_begin_X4 hown hK hP 0 rfl rfl 6 (by decide) (hts (.fieldLink RX4 31 "HookPier$Now" "line" "[I") (List.mem_of_getElem? (i := 5) rfl)) (fun _ h9 => h9) rfl dX4_begin_43 ?_
            refine va_alen (v := 5) hx hb hK hP 2 1 rfl rfl rfl dX4_begin_46 ?_
            refine lv_icmp_ge (tgt := 63) hx hb dX4_begin_47 (by decide) (fun c65 => ?_) (fun c65 => ?_)
            · simp only [fa_lt, fa_le, fa_eq, ltv_0, ltv_5] at c65
              have hP9 := hP.sub (ws' := [(a0, .inr (3, [.int 0, .int 0, .int 0, .ref a1, g6, g7, .ref a2])), (a1, .inl (cB8, 6, .inl f42)), (a2, .inl (cB10, 5, .inl f63))]) [0, 1, 2] rfl
              have hD9 := hD.sub (ws' := [(a0, .inr (3, [.int 0, .int 0, .int 0, .ref a1, g6, g7, .ref a2])), (a1, .inl (cB8, 6, .inl f42)), (a2, .inl (cB10, 5, .inl f63))]) [0, 1, 2] (by decide) rfl
              have hK9 := hK.sub (tys' := []) [] rfl
              exact W.vret hx hb hr (fun t ht hW => ⟨⟨(f42, f63), rfl, trivial, by rw [ht]; exact hP9, va_K.moved hW.alike hK9, hD9⟩, hS.F ht⟩) hS.2.2 dX4_begin_63
            · simp only [fa_lt, fa_le, fa_eq, ltv_0, ltv_5] at c65
              refine lv_aload_n hx hb dX4_begin_50 rfl (lv_at hl 1 rfl) ?_
              refine va_get (D := (dC, dI)) (ci := 3) (v := .ref a2) (C := RX4) (T := TX4) (N := 7) hx hb hts iX4_begin_X4 hown hK hP 0 rfl rfl 6 (by decide) (hts (.fieldLink RX4 31 "HookPier$Now" "line" "[I") (List.mem_of_getElem? (i := 5) rfl)) (fun _ h9 => h9) rfl dX4_begin_51 ?_
              refine lv_iload_n hx hb dX4_begin_54 rfl (lv_at hl 0 rfl) ?_
              refine lv_iconst (v := (-1)) hx hb dX4_begin_55 (by decide) ?_
              refine va_iast hx hb hK hP hD hS 2 1 rfl rfl (vp_in_iff.mpr (by omega)) dX4_begin_56 (fun H locs hP hD hS => ?_)
              have hP : va_P (dC, dI) vwCl [(a0, .inr (3, [.int 0, .int 0, .int 0, .ref a1, g6, g7, .ref a2])), (a1, .inl (cB8, 6, .inl f42)), (a2, .inl (cB10, 5, .inl (upd f63 (z62 : Int32).toNatClampNeg (-1))))] H := hP
              have hD : va_D A [(a0, .inr (3, [.int 0, .int 0, .int 0, .ref a1, g6, g7, .ref a2])), (a1, .inl (cB8, 6, .inl f42)), (a2, .inl (cB10, 5, .inl (upd f63 (z62 : Int32).toNatClampNeg (-1))))] := hD
              generalize upd f63 (z62 : Int32).toNatClampNeg (-1) = f66 at hP hD
              obtain ⟨z67, ez67⟩ : ∃ y : Int32, y = z62 + 1 := ⟨_, rfl⟩
              have tz67 : z67.toInt = z62.toInt + 1 := by rw [ez67, iadd_t (by simp only [ltv_1]; omega) (by simp only [ltv_1]; omega)]; simp only [ltv_1]
              refine lv_iinc (v := z67) (lv' := [(1, .int z67), (0, .ref a0)]) hx hb dX4_begin_57 hl (k := 0) rfl (by rw [ez67]; rfl) (by decide) rfl (fun ls hl => ?_)
              refine lv_goto (tgt := 41) hx hb dX4_begin_60 (by decide) ?_
              exact ih41 z67 f66 H locs ls (by first | omega | (simp only [ltv_0]; omega)) (by first | omega | (simp only [ltv_0]; omega)) hP hD hS (lv_sub hl [0, 1] rfl)
        exact L41_64 6 (0) f11 H _ ls (by first | omega | (simp only [ltv_0]; omega)) (by first | omega | (simp only [ltv_0]; omega)) hP hD hS (lv_sub hl [0, 1] rfl)
      · simp only [fa_lt, fa_le, fa_eq, ltv_0, ltv_6] at c44
        refine lv_aload_n hx hb dX4_begin_26 rfl (lv_at hl 1 rfl) ?_
        refine va_get (D := (dC, dI)) (ci := 3) (v := .ref a1) (C := RX4) (T := TX4) (N := 7) hx hb hts iX4_begin_X4 hown hK hP 0 rfl rfl 3 (by decide) (hts (.fieldLink RX4 21 "HookPier$Now" "stage" "[I") (List.mem_of_getElem? (i := 4) rfl)) (fun _ h9 => h9) rfl dX4_begin_27 ?_
        refine lv_iload_n hx hb dX4_begin_30 rfl (lv_at hl 0 rfl) ?_
        refine lv_iconst (v := 0) hx hb dX4_begin_31 (by decide) ?_
        refine va_iast hx hb hK hP hD hS 1 0 rfl rfl (vp_in_iff.mpr (by omega)) dX4_begin_32 (fun H locs hP hD hS => ?_)
        have hP : va_P (dC, dI) vwCl [(a0, .inr (3, [.int 0, .int 0, .int 0, .ref a1, g6, g7, .ref a2])), (a1, .inl (cB8, 6, .inl (upd f42 (z41 : Int32).toNatClampNeg 0))), (a2, .inl (cB10, 5, .inl f11))] H := hP
        have hD : va_D A [(a0, .inr (3, [.int 0, .int 0, .int 0, .ref a1, g6, g7, .ref a2])), (a1, .inl (cB8, 6, .inl (upd f42 (z41 : Int32).toNatClampNeg 0))), (a2, .inl (cB10, 5, .inl f11))] := hD
        generalize upd f42 (z41 : Int32).toNatClampNeg 0 = f68 at hP hD
        obtain ⟨z69, ez69⟩ : ∃ y : Int32, y = z41 + 1 := ⟨_, rfl⟩
        have tz69 : z69.toInt = z41.toInt + 1 := by rw [ez69, iadd_t (by simp only [ltv_1]; omega) (by simp only [ltv_1]; omega)]; simp only [ltv_1]
        refine lv_iinc (v := z69) (lv' := [(1, .int z69), (0, .ref a0)]) hx hb dX4_begin_33 hl (k := 0) rfl (by rw [ez69]; rfl) (by decide) rfl (fun ls hl => ?_)
        refine lv_goto (tgt := 17) hx hb dX4_begin_36 (by decide) ?_
        exact ih17 z69 f68 H locs ls (by first | omega | (simp only [ltv_0]; omega)) (by first | omega | (simp only [ltv_0]; omega)) hP hD hS (lv_sub hl [0, 1] rfl)
  exact L17_43 7 (0) f9 H _ ls (by first | omega | (simp only [ltv_0]; omega)) (by first | omega | (simp only [ltv_0]; omega)) hP hD hS (lv_sub hl [0, 1] rfl)
theorem dX4_letDownAs_0 : decode cX4_letDownAs 0 = .ok (.aload_n 1, 1) := by decide +kernel
theorem dX4_letDownAs_1 : decode cX4_letDownAs 1 = .ok (.getfield 31, 3) := by decide +kernel
theorem dX4_letDownAs_10 : decode cX4_letDownAs 10 = .ok (.aload_n 0, 1) := by decide +kernel
theorem dX4_letDownAs_11 : decode cX4_letDownAs 11 = .ok (.getfield 31, 3) := by decide +kernel
theorem dX4_letDownAs_14 : decode cX4_letDownAs 14 = .ok (.arraylength, 1) := by decide +kernel
theorem dX4_letDownAs_15 : decode cX4_letDownAs 15 = .ok (.invokestatic 34, 3) := by decide +kernel
theorem dX4_letDownAs_18 : decode cX4_letDownAs 18 = .ok (.return_, 1) := by decide +kernel
theorem dX4_letDownAs_4 : decode cX4_letDownAs 4 = .ok (.iconst 0, 1) := by decide +kernel
theorem dX4_letDownAs_5 : decode cX4_letDownAs 5 = .ok (.aload_n 0, 1) := by decide +kernel
theorem dX4_letDownAs_6 : decode cX4_letDownAs 6 = .ok (.getfield 31, 3) := by decide +kernel
theorem dX4_letDownAs_9 : decode cX4_letDownAs 9 = .ok (.iconst 0, 1) := by decide +kernel
def vX4_letDownAs : List Cond := .code yX4_letDownAs cX4_letDownAs 2 none :: ([.fieldLink RX4 31 "HookPier$Now" "line" "[I", .methodLink RX4 34 arraycopyName, .native arraycopyName, .static arraycopyName, .initialized "java/lang/System"] ++ wsX40)
theorem iX4_letDownAs_X4 : ∀ w ∈ wsX40, w ∈ vX4_letDownAs := fun _ h => List.mem_cons_of_mem _ (List.mem_append_right _ h)
set_option maxHeartbeats 2000000 in
set_option maxRecDepth 100000 in
theorem kX4_letDownAs (l : Launch) (dC : Nat → ClassId) (dI : Nat → Nat → Nat) (a0 : Nat) (a1 : Nat) (a2 : Nat) (a3 : Nat) (g4 : Value) (g5 : Value) (g6 : Value) (g7 : Value) (g8 : Value) (g9 : Value) (g10 : Value) (g11 : Value) (g12 : Value) (g13 : Value) (g14 : Value) (g15 : Value) (cB16 : ClassId) (f17 : Nat → Int32) (cB18 : ClassId) (f19 : Nat → Int32) (sz : Nat) : Met l yX4_letDownAs vX4_letDownAs ({ frames := 1, cells := 0, slots := 0, locals := 40 }) (PC (dC, dI) [.ref a0, .ref a1] sz [(a0, .inr (3, [g4, g5, g6, g7, g8, g9, .ref a2])), (a1, .inr (3, [g10, g11, g12, g13, g14, g15, .ref a3])), (a2, .inl (cB16, 5, .inl f17)), (a3, .inl (cB18, 5, .inl f19))] [(cB16, .int), (cB18, .int)]) (va_Qv (S := (Nat → Int32)) (fun u => True) (fun u t => BC (dC, dI) (va_A [(a0, .inr (3, [g4, g5, g6, g7, g8, g9, .ref a2])), (a1, .inr (3, [g10, g11, g12, g13, g14, g15, .ref a3])), (a2, .inl (cB16, 5, .inl f17)), (a3, .inl (cB18, 5, .inl f19))] sz) [(a0, .inr (3, [g4, g5, g6, g7, g8, g9, .ref a2])), (a1, .inr (3, [g10, g11, g12, g13, g14, g15, .ref a3])), (a2, .inl (cB16, 5, .inl (u))), (a3, .inl (cB18, 5, .inl f19))] [] t) (va_A [(a0, .inr (3, [g4, g5, g6, g7, g8, g9, .ref a2])), (a1, .inr (3, [g10, g11, g12, g13, g14, g15, .ref a3])), (a2, .inl (cB16, 5, .inl f17)), (a3, .inl (cB18, 5, .inl f19))] sz)) 0 0 (va_A [(a0, .inr (3, [g4, g5, g6, g7, g8, g9, .ref a2])), (a1, .inr (3, [g10, g11, g12, g13, g14, g15, .ref a3])), (a2, .inl (cB16, 5, .inl f17)), (a3, .inl (cB18, 5, .inl f19))] sz) := by
  refine Met.ofW (cc := cX4_letDownAs) (maxL := 2) (ret := none) (by decide) rfl ?_
  intro p e s m args below meth c s₁ B hml hv
  obtain ⟨rfl, hsz, hP, hK, hD0, hN⟩ := hv
  have hx := B.exec
  have hb := B.bytes
  have hr := B.returns
  have hts := atoms_spec (ws := vX4_letDownAs) B.pre
  have hown : s.vm.findClass RX4 = some m.cls := findClass_of_methodNamed B.named
  have hlocks := B.notSynchronized
  subst hsz
  have hD := hD0.self (sz := s.heap.size)
  generalize hAe : va_A [(a0, .inr (3, [g4, g5, g6, g7, g8, g9, .ref a2])), (a1, .inr (3, [g10, g11, g12, g13, g14, g15, .ref a3])), (a2, .inl (cB16, 5, .inl f17)), (a3, .inl (cB18, 5, .inl f19))] s.heap.size = A at hD ⊢
  have hA : ∀ q : Nat, s.heap.size ≤ q → A q := fun q h => by rw [← hAe]; exact Or.inr h
  have hS : va_S A s.heap s.heap [] := va_S.rf
  have hP : va_P (dC, dI) vwCl [(a0, .inr (3, [g4, g5, g6, g7, g8, g9, .ref a2])), (a1, .inr (3, [g10, g11, g12, g13, g14, g15, .ref a3])), (a2, .inl (cB16, 5, .inl f17)), (a3, .inl (cB18, 5, .inl f19))] s.heap := hP
  have hl := lv_entry ([.ref a0, .ref a1]) (n := 2) (Nat.le_of_ble_eq_true rfl)
  rw [lg_entry_eq]
  generalize (lg_sl ([.ref a0, .ref a1]) ++ List.replicate (2 - (lg_sl ([.ref a0, .ref a1])).length) Slot.unset).toArray = ls at hl ⊢
  have hl : lv_has ls 2 [(0, .ref a0), (1, .ref a1)] := hl
  refine lv_aload_n hx hb dX4_letDownAs_0 rfl (lv_at hl 1 rfl) ?_
  refine va_get (D := (dC, dI)) (ci := 3) (v := .ref a3) (C := RX4) (T := TX4) (N := 7) hx hb hts iX4_letDownAs_X4 hown hK hP 1 rfl rfl 6 (by decide) (hts (.fieldLink RX4 31 "HookPier$Now" "line" "[I") (List.mem_of_getElem? (i := 1) rfl)) (fun _ h9 => h9) rfl dX4_letDownAs_1 ?_
  refine lv_iconst (v := 0) hx hb dX4_letDownAs_4 (by decide) ?_
  refine lv_aload_n hx hb dX4_letDownAs_5 rfl (lv_at hl 0 rfl) ?_
  refine va_get (D := (dC, dI)) (ci := 3) (v := .ref a2) (C := RX4) (T := TX4) (N := 7) hx hb hts iX4_letDownAs_X4 hown hK hP 0 rfl rfl 6 (by decide) (hts (.fieldLink RX4 31 "HookPier$Now" "line" "[I") (List.mem_of_getElem? (i := 1) rfl)) (fun _ h9 => h9) rfl dX4_letDownAs_6 ?_
  refine lv_iconst (v := 0) hx hb dX4_letDownAs_9 (by decide) ?_
  refine lv_aload_n hx hb dX4_letDownAs_10 rfl (lv_at hl 0 rfl) ?_
  refine va_get (D := (dC, dI)) (ci := 3) (v := .ref a2) (C := RX4) (T := TX4) (N := 7) hx hb hts iX4_letDownAs_X4 hown hK hP 0 rfl rfl 6 (by decide) (hts (.fieldLink RX4 31 "HookPier$Now" "line" "[I") (List.mem_of_getElem? (i := 1) rfl)) (fun _ h9 => h9) rfl dX4_letDownAs_11 ?_
  refine va_alen (v := 5) hx hb hK hP 2 0 rfl rfl rfl dX4_letDownAs_14 ?_
  refine va_copyi hx hb (by rw [hml]; exact hl.1.symm) hown (hts (.methodLink RX4 34 arraycopyName) (List.mem_of_getElem? (i := 2) rfl)) (hts (.native arraycopyName) (List.mem_of_getElem? (i := 3) rfl)) (hts (.static arraycopyName) (List.mem_of_getElem? (i := 4) rfl)) (hts (.initialized "java/lang/System") (List.mem_of_getElem? (i := 5) rfl)) hK hP hD hS 3 2 1 0 rfl rfl rfl rfl rfl (by decide) (by decide) (by decide) (by decide) (by decide) (fun _ _ => rfl) (Nat.le_of_ble_eq_true rfl) (Nat.le_of_ble_eq_true rfl) dX4_letDownAs_15 (fun H locs hP hD hS => ?_)
  have hP : va_P (dC, dI) vwCl [(a0, .inr (3, [g4, g5, g6, g7, g8, g9, .ref a2])), (a1, .inr (3, [g10, g11, g12, g13, g14, g15, .ref a3])), (a2, .inl (cB16, 5, .inl (va_cpy f19 f17 (0 : Int32).toNatClampNeg (0 : Int32).toNatClampNeg (5 : Int32).toNatClampNeg))), (a3, .inl (cB18, 5, .inl f19))] H := hP
  have hD : va_D A [(a0, .inr (3, [g4, g5, g6, g7, g8, g9, .ref a2])), (a1, .inr (3, [g10, g11, g12, g13, g14, g15, .ref a3])), (a2, .inl (cB16, 5, .inl (va_cpy f19 f17 (0 : Int32).toNatClampNeg (0 : Int32).toNatClampNeg (5 : Int32).toNatClampNeg))), (a3, .inl (cB18, 5, .inl f19))] := hD
  generalize va_cpy f19 f17 (0 : Int32).toNatClampNeg (0 : Int32).toNatClampNeg (5 : Int32).toNatClampNeg = f1 at hP hD
  have hP9 := hP.sub (ws' := [(a0, .inr (3, [g4, g5, g6, g7, g8, g9, .ref a2])), (a1, .inr (3, [g10, g11, g12, g13, g14, g15, .ref a3])), (a2, .inl (cB16, 5, .inl f1)), (a3, .inl (cB18, 5, .inl f19))]) [0, 1, 2, 3] rfl
  have hD9 := hD.sub (ws' := [(a0, .inr (3, [g4, g5, g6, g7, g8, g9, .ref a2])), (a1, .inr (3, [g10, g11, g12, g13, g14, g15, .ref a3])), (a2, .inl (cB16, 5, .inl f1)), (a3, .inl (cB18, 5, .inl f19))]) [0, 1, 2, 3] (by decide) rfl
  have hK9 := hK.sub (tys' := []) [] rfl
  exact W.vret hx hb hr (fun t ht hW => ⟨⟨f1, rfl, trivial, by rw [ht]; exact hP9, va_K.moved hW.alike hK9, hD9⟩, hS.F ht⟩) hS.2.2 dX4_letDownAs_18
theorem dX4_become_0 : decode cX4_become 0 = .ok (.aload_n 0, 1) := by decide +kernel
theorem dX4_become_1 : decode cX4_become 1 = .ok (.aload_n 1, 1) := by decide +kernel
theorem dX4_become_10 : decode cX4_become 10 = .ok (.getfield 15, 3) := by decide +kernel
theorem dX4_become_13 : decode cX4_become 13 = .ok (.putfield 15, 3) := by decide +kernel
theorem dX4_become_16 : decode cX4_become 16 = .ok (.aload_n 0, 1) := by decide +kernel
theorem dX4_become_17 : decode cX4_become 17 = .ok (.aload_n 1, 1) := by decide +kernel
theorem dX4_become_18 : decode cX4_become 18 = .ok (.getfield 18, 3) := by decide +kernel
theorem dX4_become_2 : decode cX4_become 2 = .ok (.getfield 9, 3) := by decide +kernel
theorem dX4_become_21 : decode cX4_become 21 = .ok (.putfield 18, 3) := by decide +kernel
theorem dX4_become_24 : decode cX4_become 24 = .ok (.aload_n 1, 1) := by decide +kernel
theorem dX4_become_25 : decode cX4_become 25 = .ok (.getfield 21, 3) := by decide +kernel
theorem dX4_become_28 : decode cX4_become 28 = .ok (.iconst 0, 1) := by decide +kernel
theorem dX4_become_29 : decode cX4_become 29 = .ok (.aload_n 0, 1) := by decide +kernel
theorem dX4_become_30 : decode cX4_become 30 = .ok (.getfield 21, 3) := by decide +kernel
theorem dX4_become_33 : decode cX4_become 33 = .ok (.iconst 0, 1) := by decide +kernel
theorem dX4_become_34 : decode cX4_become 34 = .ok (.aload_n 0, 1) := by decide +kernel
theorem dX4_become_35 : decode cX4_become 35 = .ok (.getfield 21, 3) := by decide +kernel
theorem dX4_become_38 : decode cX4_become 38 = .ok (.arraylength, 1) := by decide +kernel
theorem dX4_become_39 : decode cX4_become 39 = .ok (.invokestatic 34, 3) := by decide +kernel
theorem dX4_become_42 : decode cX4_become 42 = .ok (.aload_n 1, 1) := by decide +kernel
theorem dX4_become_43 : decode cX4_become 43 = .ok (.getfield 25, 3) := by decide +kernel
theorem dX4_become_46 : decode cX4_become 46 = .ok (.iconst 0, 1) := by decide +kernel
theorem dX4_become_47 : decode cX4_become 47 = .ok (.aload_n 0, 1) := by decide +kernel
theorem dX4_become_48 : decode cX4_become 48 = .ok (.getfield 25, 3) := by decide +kernel
theorem dX4_become_5 : decode cX4_become 5 = .ok (.putfield 9, 3) := by decide +kernel
theorem dX4_become_51 : decode cX4_become 51 = .ok (.iconst 0, 1) := by decide +kernel
theorem dX4_become_52 : decode cX4_become 52 = .ok (.aload_n 0, 1) := by decide +kernel
theorem dX4_become_53 : decode cX4_become 53 = .ok (.getfield 25, 3) := by decide +kernel
theorem dX4_become_56 : decode cX4_become 56 = .ok (.arraylength, 1) := by decide +kernel
theorem dX4_become_57 : decode cX4_become 57 = .ok (.invokestatic 34, 3) := by decide +kernel
theorem dX4_become_60 : decode cX4_become 60 = .ok (.aload_n 1, 1) := by decide +kernel
theorem dX4_become_61 : decode cX4_become 61 = .ok (.getfield 28, 3) := by decide +kernel
theorem dX4_become_64 : decode cX4_become 64 = .ok (.iconst 0, 1) := by decide +kernel
theorem dX4_become_65 : decode cX4_become 65 = .ok (.aload_n 0, 1) := by decide +kernel
theorem dX4_become_66 : decode cX4_become 66 = .ok (.getfield 28, 3) := by decide +kernel
theorem dX4_become_69 : decode cX4_become 69 = .ok (.iconst 0, 1) := by decide +kernel
theorem dX4_become_70 : decode cX4_become 70 = .ok (.aload_n 0, 1) := by decide +kernel
theorem dX4_become_71 : decode cX4_become 71 = .ok (.getfield 28, 3) := by decide +kernel
theorem dX4_become_74 : decode cX4_become 74 = .ok (.arraylength, 1) := by decide +kernel
theorem dX4_become_75 : decode cX4_become 75 = .ok (.invokestatic 34, 3) := by decide +kernel
theorem dX4_become_78 : decode cX4_become 78 = .ok (.aload_n 0, 1) := by decide +kernel
theorem dX4_become_79 : decode cX4_become 79 = .ok (.aload_n 1, 1) := by decide +kernel
theorem dX4_become_8 : decode cX4_become 8 = .ok (.aload_n 0, 1) := by decide +kernel
theorem dX4_become_80 : decode cX4_become 80 = .ok (.invokevirtual 40, 3) := by decide +kernel
theorem dX4_become_83 : decode cX4_become 83 = .ok (.return_, 1) := by decide +kernel
theorem dX4_become_9 : decode cX4_become 9 = .ok (.aload_n 1, 1) := by decide +kernel
def vX4_become : List Cond := .code yX4_become cX4_become 2 none :: ([.fieldLink RX4 9 "HookPier$Now" "today" "I", .fieldLink RX4 15 "HookPier$Now" "seedNow" "I", .fieldLink RX4 18 "HookPier$Now" "soldFor" "I", .fieldLink RX4 21 "HookPier$Now" "stage" "[I", .methodLink RX4 34 arraycopyName, .native arraycopyName, .static arraycopyName, .initialized "java/lang/System", .fieldLink RX4 25 "HookPier$Now" "landedOn" "[I", .fieldLink RX4 28 "HookPier$Now" "landedBy" "[I", .methodLink RX4 40 yX4_letDownAs, .instanceMethod yX4_letDownAs, .selects RX4 yX4_letDownAs yX4_letDownAs, .initialized RX4, .code yX4_letDownAs cX4_letDownAs 2 none, .fieldLink RX4 31 "HookPier$Now" "line" "[I"] ++ wsX40)
theorem iX4_become_X4 : ∀ w ∈ wsX40, w ∈ vX4_become := fun _ h => List.mem_cons_of_mem _ (List.mem_append_right _ h)
set_option maxRecDepth 20000 in
theorem gX4_become_0 : GoodIn vX4_become (wsV RX4 40 RX4 yX4_letDownAs vX4_letDownAs) := goodIn_app (goodIn_r [.methodLink RX4 40 yX4_letDownAs, .instanceMethod yX4_letDownAs, .selects RX4 yX4_letDownAs yX4_letDownAs, .initialized RX4] [11, 12, 13, 14] (by decide +kernel) (by decide +kernel)) (goodIn_ca (goodIn_r (.code yX4_letDownAs cX4_letDownAs 2 none :: [.fieldLink RX4 31 "HookPier$Now" "line" "[I", .methodLink RX4 34 arraycopyName, .native arraycopyName, .static arraycopyName, .initialized "java/lang/System"]) [15, 16, 5, 6, 7, 8] (by decide +kernel) (by decide +kernel) : GoodIn vX4_become (.code yX4_letDownAs cX4_letDownAs 2 none :: [.fieldLink RX4 31 "HookPier$Now" "line" "[I", .methodLink RX4 34 arraycopyName, .native arraycopyName, .static arraycopyName, .initialized "java/lang/System"])) (goodIn_sub iX4_become_X4 (by decide +kernel)))
set_option maxHeartbeats 2000000 in
set_option maxRecDepth 100000 in
theorem kX4_become (l : Launch) (dC : Nat → ClassId) (dI : Nat → Nat → Nat) (a0 : Nat) (a1 : Nat) (a2 : Nat) (a3 : Nat) (a4 : Nat) (a5 : Nat) (a6 : Nat) (a7 : Nat) (a8 : Nat) (a9 : Nat) (g10 : Value) (g11 : Value) (g12 : Value) (k13 : Int32) (k14 : Int32) (k15 : Int32) (cB16 : ClassId) (f17 : Nat → Int32) (cB18 : ClassId) (f19 : Nat → Int32) (cB20 : ClassId) (f21 : Nat → Int32) (cB22 : ClassId) (f23 : Nat → Int32) (cB24 : ClassId) (f25 : Nat → Int32) (cB26 : ClassId) (f27 : Nat → Int32) (cB28 : ClassId) (f29 : Nat → Int32) (cB30 : ClassId) (f31 : Nat → Int32) (sz : Nat) : Met l yX4_become vX4_become ({ frames := 2, cells := 0, slots := 0, locals := 61 }) (PC (dC, dI) [.ref a0, .ref a1] sz [(a0, .inr (3, [g10, g11, g12, .ref a2, .ref a3, .ref a4, .ref a5])), (a1, .inr (3, [.int k13, .int k14, .int k15, .ref a6, .ref a7, .ref a8, .ref a9])), (a2, .inl (cB16, 6, .inl f17)), (a3, .inl (cB18, 6, .inl f19)), (a4, .inl (cB20, 6, .inl f21)), (a5, .inl (cB22, 5, .inl f23)), (a6, .inl (cB24, 6, .inl f25)), (a7, .inl (cB26, 6, .inl f27)), (a8, .inl (cB28, 6, .inl f29)), (a9, .inl (cB30, 5, .inl f31))] [(cB16, .int), (cB18, .int), (cB20, .int), (cB22, .int), (cB24, .int), (cB26, .int), (cB28, .int), (cB30, .int)]) (va_Qv (S := Int32 × Int32 × Int32 × (Nat → Int32) × (Nat → Int32) × (Nat → Int32) × (Nat → Int32)) (fun u => True) (fun u t => BC (dC, dI) (va_A [(a0, .inr (3, [g10, g11, g12, .ref a2, .ref a3, .ref a4, .ref a5])), (a1, .inr (3, [.int k13, .int k14, .int k15, .ref a6, .ref a7, .ref a8, .ref a9])), (a2, .inl (cB16, 6, .inl f17)), (a3, .inl (cB18, 6, .inl f19)), (a4, .inl (cB20, 6, .inl f21)), (a5, .inl (cB22, 5, .inl f23)), (a6, .inl (cB24, 6, .inl f25)), (a7, .inl (cB26, 6, .inl f27)), (a8, .inl (cB28, 6, .inl f29)), (a9, .inl (cB30, 5, .inl f31))] sz) [(a0, .inr (3, [.int (u.1), .int (u.2.1), .int (u.2.2.1), .ref a2, .ref a3, .ref a4, .ref a5])), (a1, .inr (3, [.int k13, .int k14, .int k15, .ref a6, .ref a7, .ref a8, .ref a9])), (a2, .inl (cB16, 6, .inl (u.2.2.2.1))), (a3, .inl (cB18, 6, .inl (u.2.2.2.2.1))), (a4, .inl (cB20, 6, .inl (u.2.2.2.2.2.1))), (a5, .inl (cB22, 5, .inl (u.2.2.2.2.2.2))), (a6, .inl (cB24, 6, .inl f25)), (a7, .inl (cB26, 6, .inl f27)), (a8, .inl (cB28, 6, .inl f29)), (a9, .inl (cB30, 5, .inl f31))] [] t) (va_A [(a0, .inr (3, [g10, g11, g12, .ref a2, .ref a3, .ref a4, .ref a5])), (a1, .inr (3, [.int k13, .int k14, .int k15, .ref a6, .ref a7, .ref a8, .ref a9])), (a2, .inl (cB16, 6, .inl f17)), (a3, .inl (cB18, 6, .inl f19)), (a4, .inl (cB20, 6, .inl f21)), (a5, .inl (cB22, 5, .inl f23)), (a6, .inl (cB24, 6, .inl f25)), (a7, .inl (cB26, 6, .inl f27)), (a8, .inl (cB28, 6, .inl f29)), (a9, .inl (cB30, 5, .inl f31))] sz)) 0 0 (va_A [(a0, .inr (3, [g10, g11, g12, .ref a2, .ref a3, .ref a4, .ref a5])), (a1, .inr (3, [.int k13, .int k14, .int k15, .ref a6, .ref a7, .ref a8, .ref a9])), (a2, .inl (cB16, 6, .inl f17)), (a3, .inl (cB18, 6, .inl f19)), (a4, .inl (cB20, 6, .inl f21)), (a5, .inl (cB22, 5, .inl f23)), (a6, .inl (cB24, 6, .inl f25)), (a7, .inl (cB26, 6, .inl f27)), (a8, .inl (cB28, 6, .inl f29)), (a9, .inl (cB30, 5, .inl f31))] sz) := by
  refine Met.ofW (cc := cX4_become) (maxL := 2) (ret := none) (by decide) rfl ?_
  intro p e s m args below meth c s₁ B hml hv
  obtain ⟨rfl, hsz, hP, hK, hD0, hN⟩ := hv
  have hx := B.exec
  have hb := B.bytes
  have hr := B.returns
  have hts := atoms_spec (ws := vX4_become) B.pre
  have hown : s.vm.findClass RX4 = some m.cls := findClass_of_methodNamed B.named
  have hlocks := B.notSynchronized
  subst hsz
  have hD := hD0.self (sz := s.heap.size)
  generalize hAe : va_A [(a0, .inr (3, [g10, g11, g12, .ref a2, .ref a3, .ref a4, .ref a5])), (a1, .inr (3, [.int k13, .int k14, .int k15, .ref a6, .ref a7, .ref a8, .ref a9])), (a2, .inl (cB16, 6, .inl f17)), (a3, .inl (cB18, 6, .inl f19)), (a4, .inl (cB20, 6, .inl f21)), (a5, .inl (cB22, 5, .inl f23)), (a6, .inl (cB24, 6, .inl f25)), (a7, .inl (cB26, 6, .inl f27)), (a8, .inl (cB28, 6, .inl f29)), (a9, .inl (cB30, 5, .inl f31))] s.heap.size = A at hD ⊢
  have hA : ∀ q : Nat, s.heap.size ≤ q → A q := fun q h => by rw [← hAe]; exact Or.inr h
  have hS : va_S A s.heap s.heap [] := va_S.rf
  have hP : va_P (dC, dI) vwCl [(a0, .inr (3, [g10, g11, g12, .ref a2, .ref a3, .ref a4, .ref a5])), (a1, .inr (3, [.int k13, .int k14, .int k15, .ref a6, .ref a7, .ref a8, .ref a9])), (a2, .inl (cB16, 6, .inl f17)), (a3, .inl (cB18, 6, .inl f19)), (a4, .inl (cB20, 6, .inl f21)), (a5, .inl (cB22, 5, .inl f23)), (a6, .inl (cB24, 6, .inl f25)), (a7, .inl (cB26, 6, .inl f27)), (a8, .inl (cB28, 6, .inl f29)), (a9, .inl (cB30, 5, .inl f31))] s.heap := hP
  have hl := lv_entry ([.ref a0, .ref a1]) (n := 2) (Nat.le_of_ble_eq_true rfl)
  rw [lg_entry_eq]
  generalize (lg_sl ([.ref a0, .ref a1]) ++ List.replicate (2 - (lg_sl ([.ref a0, .ref a1])).length) Slot.unset).toArray = ls at hl ⊢
  have hl : lv_has ls 2 [(0, .ref a0), (1, .ref a1)] := hl
  refine lv_aload_n hx hb dX4_become_0 rfl (lv_at hl 0 rfl) ?_
  refine lv_aload_n hx hb dX4_become_1 rfl (lv_at hl 1 rfl) ?_
  refine va_get (D := (dC, dI)) (ci := 3) (v := .int k13) (C := RX4) (T := TX4) (N := 7) hx hb hts iX4_become_X4 hown hK hP 1 rfl rfl 0 (by decide) (hts (.fieldLink RX4 9 "HookPier$Now" "today" "I") (List.mem_of_getElem? (i := 1) rfl)) (fun _ h9 => h9) rfl dX4_become_2 ?_
  refine va_put (D := (dC, dI)) (ci := 3) (v := .int k13) (ty := .int) (C := RX4) (T := TX4) (N := 7) hx hb hts iX4_become_X4 tyX4 tyX4_ok nmX4 hown hK hP hD hS 0 rfl rfl 0 (by decide) (hts (.fieldLink RX4 9 "HookPier$Now" "today" "I") (List.mem_of_getElem? (i := 1) rfl)) (fun _ h9 => h9) rfl (by decide +kernel) rfl rfl (Nat.le_of_ble_eq_true rfl) dX4_become_5 (fun H locs hP hD hS => ?_)
  have hP : va_P (dC, dI) vwCl [(a0, .inr (3, [.int k13, g11, g12, .ref a2, .ref a3, .ref a4, .ref a5])), (a1, .inr (3, [.int k13, .int k14, .int k15, .ref a6, .ref a7, .ref a8, .ref a9])), (a2, .inl (cB16, 6, .inl f17)), (a3, .inl (cB18, 6, .inl f19)), (a4, .inl (cB20, 6, .inl f21)), (a5, .inl (cB22, 5, .inl f23)), (a6, .inl (cB24, 6, .inl f25)), (a7, .inl (cB26, 6, .inl f27)), (a8, .inl (cB28, 6, .inl f29)), (a9, .inl (cB30, 5, .inl f31))] H := hP
  have hD : va_D A [(a0, .inr (3, [.int k13, g11, g12, .ref a2, .ref a3, .ref a4, .ref a5])), (a1, .inr (3, [.int k13, .int k14, .int k15, .ref a6, .ref a7, .ref a8, .ref a9])), (a2, .inl (cB16, 6, .inl f17)), (a3, .inl (cB18, 6, .inl f19)), (a4, .inl (cB20, 6, .inl f21)), (a5, .inl (cB22, 5, .inl f23)), (a6, .inl (cB24, 6, .inl f25)), (a7, .inl (cB26, 6, .inl f27)), (a8, .inl (cB28, 6, .inl f29)), (a9, .inl (cB30, 5, .inl f31))] := hD
  refine lv_aload_n hx hb dX4_become_8 rfl (lv_at hl 0 rfl) ?_
  refine lv_aload_n hx hb dX4_become_9 rfl (lv_at hl 1 rfl) ?_
  refine va_get (D := (dC, dI)) (ci := 3) (v := .int k14) (C := RX4) (T := TX4) (N := 7) hx hb hts iX4_become_X4 hown hK hP 1 rfl rfl 1 (by decide) (hts (.fieldLink RX4 15 "HookPier$Now" "seedNow" "I") (List.mem_of_getElem? (i := 2) rfl)) (fun _ h9 => h9) rfl dX4_become_10 ?_
  refine va_put (D := (dC, dI)) (ci := 3) (v := .int k14) (ty := .int) (C := RX4) (T := TX4) (N := 7) hx hb hts iX4_become_X4 tyX4 tyX4_ok nmX4 hown hK hP hD hS 0 rfl rfl 1 (by decide) (hts (.fieldLink RX4 15 "HookPier$Now" "seedNow" "I") (List.mem_of_getElem? (i := 2) rfl)) (fun _ h9 => h9) rfl (by decide +kernel) rfl rfl (Nat.le_of_ble_eq_true rfl) dX4_become_13 (fun H locs hP hD hS => ?_)
  have hP : va_P (dC, dI) vwCl [(a0, .inr (3, [.int k13, .int k14, g12, .ref a2, .ref a3, .ref a4, .ref a5])), (a1, .inr (3, [.int k13, .int k14, .int k15, .ref a6, .ref a7, .ref a8, .ref a9])), (a2, .inl (cB16, 6, .inl f17)), (a3, .inl (cB18, 6, .inl f19)), (a4, .inl (cB20, 6, .inl f21)), (a5, .inl (cB22, 5, .inl f23)), (a6, .inl (cB24, 6, .inl f25)), (a7, .inl (cB26, 6, .inl f27)), (a8, .inl (cB28, 6, .inl f29)), (a9, .inl (cB30, 5, .inl f31))] H := hP
  have hD : va_D A [(a0, .inr (3, [.int k13, .int k14, g12, .ref a2, .ref a3, .ref a4, .ref a5])), (a1, .inr (3, [.int k13, .int k14, .int k15, .ref a6, .ref a7, .ref a8, .ref a9])), (a2, .inl (cB16, 6, .inl f17)), (a3, .inl (cB18, 6, .inl f19)), (a4, .inl (cB20, 6, .inl f21)), (a5, .inl (cB22, 5, .inl f23)), (a6, .inl (cB24, 6, .inl f25)), (a7, .inl (cB26, 6, .inl f27)), (a8, .inl (cB28, 6, .inl f29)), (a9, .inl (cB30, 5, .inl f31))] := hD
  refine lv_aload_n hx hb dX4_become_16 rfl (lv_at hl 0 rfl) ?_
  refine lv_aload_n hx hb dX4_become_17 rfl (lv_at hl 1 rfl) ?_
  refine va_get (D := (dC, dI)) (ci := 3) (v := .int k15) (C := RX4) (T := TX4) (N := 7) hx hb hts iX4_become_X4 hown hK hP 1 rfl rfl 2 (by decide) (hts (.fieldLink RX4 18 "HookPier$Now" "soldFor" "I") (List.mem_of_getElem? (i := 3) rfl)) (fun _ h9 => h9) rfl dX4_become_18 ?_
  refine va_put (D := (dC, dI)) (ci := 3) (v := .int k15) (ty := .int) (C := RX4) (T := TX4) (N := 7) hx hb hts iX4_become_X4 tyX4 tyX4_ok nmX4 hown hK hP hD hS 0 rfl rfl 2 (by decide) (hts (.fieldLink RX4 18 "HookPier$Now" "soldFor" "I") (List.mem_of_getElem? (i := 3) rfl)) (fun _ h9 => h9) rfl (by decide +kernel) rfl rfl (Nat.le_of_ble_eq_true rfl) dX4_become_21 (fun H locs hP hD hS => ?_)
  have hP : va_P (dC, dI) vwCl [(a0, .inr (3, [.int k13, .int k14, .int k15, .ref a2, .ref a3, .ref a4, .ref a5])), (a1, .inr (3, [.int k13, .int k14, .int k15, .ref a6, .ref a7, .ref a8, .ref a9])), (a2, .inl (cB16, 6, .inl f17)), (a3, .inl (cB18, 6, .inl f19)), (a4, .inl (cB20, 6, .inl f21)), (a5, .inl (cB22, 5, .inl f23)), (a6, .inl (cB24, 6, .inl f25)), (a7, .inl (cB26, 6, .inl f27)), (a8, .inl (cB28, 6, .inl f29)), (a9, .inl (cB30, 5, .inl f31))] H := hP
  have hD : va_D A [(a0, .inr (3, [.int k13, .int k14, .int k15, .ref a2, .ref a3, .ref a4, .ref a5])), (a1, .inr (3, [.int k13, .int k14, .int k15, .ref a6, .ref a7, .ref a8, .ref a9])), (a2, .inl (cB16, 6, .inl f17)), (a3, .inl (cB18, 6, .inl f19)), (a4, .inl (cB20, 6, .inl f21)), (a5, .inl (cB22, 5, .inl f23)), (a6, .inl (cB24, 6, .inl f25)), (a7, .inl (cB26, 6, .inl f27)), (a8, .inl (cB28, 6, .inl f29)), (a9, .inl (cB30, 5, .inl f31))] := hD
  refine lv_aload_n hx hb dX4_become_24 rfl (lv_at hl 1 rfl) ?_
  refine va_get (D := (dC, dI)) (ci := 3) (v := .ref a6) (C := RX4) (T := TX4) (N := 7) hx hb hts iX4_become_X4 hown hK hP 1 rfl rfl 3 (by decide) (hts (.fieldLink RX4 21 "HookPier$Now" "stage" "[I") (List.mem_of_getElem? (i := 4) rfl)) (fun _ h9 => h9) rfl dX4_become_25 ?_
  refine lv_iconst (v := 0) hx hb dX4_become_28 (by decide) ?_
  refine lv_aload_n hx hb dX4_become_29 rfl (lv_at hl 0 rfl) ?_
  refine va_get (D := (dC, dI)) (ci := 3) (v := .ref a2) (C := RX4) (T := TX4) (N := 7) hx hb hts iX4_become_X4 hown hK hP 0 rfl rfl 3 (by decide) (hts (.fieldLink RX4 21 "HookPier$Now" "stage" "[I") (List.mem_of_getElem? (i := 4) rfl)) (fun _ h9 => h9) rfl dX4_become_30 ?_
  refine lv_iconst (v := 0) hx hb dX4_become_33 (by decide) ?_
  refine lv_aload_n hx hb dX4_become_34 rfl (lv_at hl 0 rfl) ?_
  refine va_get (D := (dC, dI)) (ci := 3) (v := .ref a2) (C := RX4) (T := TX4) (N := 7) hx hb hts iX4_become_X4 hown hK hP 0 rfl rfl 3 (by decide) (hts (.fieldLink RX4 21 "HookPier$Now" "stage" "[I") (List.mem_of_getElem? (i := 4) rfl)) (fun _ h9 => h9) rfl dX4_become_35 ?_
  refine va_alen (v := 6) hx hb hK hP 2 0 rfl rfl rfl dX4_become_38 ?_
  refine va_copyi hx hb (by rw [hml]; exact hl.1.symm) hown (hts (.methodLink RX4 34 arraycopyName) (List.mem_of_getElem? (i := 5) rfl)) (hts (.native arraycopyName) (List.mem_of_getElem? (i := 6) rfl)) (hts (.static arraycopyName) (List.mem_of_getElem? (i := 7) rfl)) (hts (.initialized "java/lang/System") (List.mem_of_getElem? (i := 8) rfl)) hK hP hD hS 6 2 4 0 rfl rfl rfl rfl rfl (by decide) (by decide) (by decide) (by decide) (by decide) (fun _ _ => rfl) (Nat.le_of_ble_eq_true rfl) (Nat.le_of_ble_eq_true rfl) dX4_become_39 (fun H locs hP hD hS => ?_)
  have hP : va_P (dC, dI) vwCl [(a0, .inr (3, [.int k13, .int k14, .int k15, .ref a2, .ref a3, .ref a4, .ref a5])), (a1, .inr (3, [.int k13, .int k14, .int k15, .ref a6, .ref a7, .ref a8, .ref a9])), (a2, .inl (cB16, 6, .inl (va_cpy f25 f17 (0 : Int32).toNatClampNeg (0 : Int32).toNatClampNeg (6 : Int32).toNatClampNeg))), (a3, .inl (cB18, 6, .inl f19)), (a4, .inl (cB20, 6, .inl f21)), (a5, .inl (cB22, 5, .inl f23)), (a6, .inl (cB24, 6, .inl f25)), (a7, .inl (cB26, 6, .inl f27)), (a8, .inl (cB28, 6, .inl f29)), (a9, .inl (cB30, 5, .inl f31))] H := hP
  have hD : va_D A [(a0, .inr (3, [.int k13, .int k14, .int k15, .ref a2, .ref a3, .ref a4, .ref a5])), (a1, .inr (3, [.int k13, .int k14, .int k15, .ref a6, .ref a7, .ref a8, .ref a9])), (a2, .inl (cB16, 6, .inl (va_cpy f25 f17 (0 : Int32).toNatClampNeg (0 : Int32).toNatClampNeg (6 : Int32).toNatClampNeg))), (a3, .inl (cB18, 6, .inl f19)), (a4, .inl (cB20, 6, .inl f21)), (a5, .inl (cB22, 5, .inl f23)), (a6, .inl (cB24, 6, .inl f25)), (a7, .inl (cB26, 6, .inl f27)), (a8, .inl (cB28, 6, .inl f29)), (a9, .inl (cB30, 5, .inl f31))] := hD
  generalize va_cpy f25 f17 (0 : Int32).toNatClampNeg (0 : Int32).toNatClampNeg (6 : Int32).toNatClampNeg = f1 at hP hD
  refine lv_aload_n hx hb dX4_become_42 rfl (lv_at hl 1 rfl) ?_
  refine va_get (D := (dC, dI)) (ci := 3) (v := .ref a7) (C := RX4) (T := TX4) (N := 7) hx hb hts iX4_become_X4 hown hK hP 1 rfl rfl 4 (by decide) (hts (.fieldLink RX4 25 "HookPier$Now" "landedOn" "[I") (List.mem_of_getElem? (i := 9) rfl)) (fun _ h9 => h9) rfl dX4_become_43 ?_
  refine lv_iconst (v := 0) hx hb dX4_become_46 (by decide) ?_
  refine lv_aload_n hx hb dX4_become_47 rfl (lv_at hl 0 rfl) ?_
  refine va_get (D := (dC, dI)) (ci := 3) (v := .ref a3) (C := RX4) (T := TX4) (N := 7) hx hb hts iX4_become_X4 hown hK hP 0 rfl rfl 4 (by decide) (hts (.fieldLink RX4 25 "HookPier$Now" "landedOn" "[I") (List.mem_of_getElem? (i := 9) rfl)) (fun _ h9 => h9) rfl dX4_become_48 ?_
  refine lv_iconst (v := 0) hx hb dX4_become_51 (by decide) ?_
  refine lv_aload_n hx hb dX4_become_52 rfl (lv_at hl 0 rfl) ?_
  refine va_get (D := (dC, dI)) (ci := 3) (v := .ref a3) (C := RX4) (T := TX4) (N := 7) hx hb hts iX4_become_X4 hown hK hP 0 rfl rfl 4 (by decide) (hts (.fieldLink RX4 25 "HookPier$Now" "landedOn" "[I") (List.mem_of_getElem? (i := 9) rfl)) (fun _ h9 => h9) rfl dX4_become_53 ?_
  refine va_alen (v := 6) hx hb hK hP 3 1 rfl rfl rfl dX4_become_56 ?_
  refine va_copyi hx hb (by rw [hml]; exact hl.1.symm) hown (hts (.methodLink RX4 34 arraycopyName) (List.mem_of_getElem? (i := 5) rfl)) (hts (.native arraycopyName) (List.mem_of_getElem? (i := 6) rfl)) (hts (.static arraycopyName) (List.mem_of_getElem? (i := 7) rfl)) (hts (.initialized "java/lang/System") (List.mem_of_getElem? (i := 8) rfl)) hK hP hD hS 7 3 5 1 rfl rfl rfl rfl rfl (by decide) (by decide) (by decide) (by decide) (by decide) (fun _ _ => rfl) (Nat.le_of_ble_eq_true rfl) (Nat.le_of_ble_eq_true rfl) dX4_become_57 (fun H locs hP hD hS => ?_)
  have hP : va_P (dC, dI) vwCl [(a0, .inr (3, [.int k13, .int k14, .int k15, .ref a2, .ref a3, .ref a4, .ref a5])), (a1, .inr (3, [.int k13, .int k14, .int k15, .ref a6, .ref a7, .ref a8, .ref a9])), (a2, .inl (cB16, 6, .inl f1)), (a3, .inl (cB18, 6, .inl (va_cpy f27 f19 (0 : Int32).toNatClampNeg (0 : Int32).toNatClampNeg (6 : Int32).toNatClampNeg))), (a4, .inl (cB20, 6, .inl f21)), (a5, .inl (cB22, 5, .inl f23)), (a6, .inl (cB24, 6, .inl f25)), (a7, .inl (cB26, 6, .inl f27)), (a8, .inl (cB28, 6, .inl f29)), (a9, .inl (cB30, 5, .inl f31))] H := hP
  have hD : va_D A [(a0, .inr (3, [.int k13, .int k14, .int k15, .ref a2, .ref a3, .ref a4, .ref a5])), (a1, .inr (3, [.int k13, .int k14, .int k15, .ref a6, .ref a7, .ref a8, .ref a9])), (a2, .inl (cB16, 6, .inl f1)), (a3, .inl (cB18, 6, .inl (va_cpy f27 f19 (0 : Int32).toNatClampNeg (0 : Int32).toNatClampNeg (6 : Int32).toNatClampNeg))), (a4, .inl (cB20, 6, .inl f21)), (a5, .inl (cB22, 5, .inl f23)), (a6, .inl (cB24, 6, .inl f25)), (a7, .inl (cB26, 6, .inl f27)), (a8, .inl (cB28, 6, .inl f29)), (a9, .inl (cB30, 5, .inl f31))] := hD
  generalize va_cpy f27 f19 (0 : Int32).toNatClampNeg (0 : Int32).toNatClampNeg (6 : Int32).toNatClampNeg = f2 at hP hD
  refine lv_aload_n hx hb dX4_become_60 rfl (lv_at hl 1 rfl) ?_
  refine va_get (D := (dC, dI)) (ci := 3) (v := .ref a8) (C := RX4) (T := TX4) (N := 7) hx hb hts iX4_become_X4 hown hK hP 1 rfl rfl 5 (by decide) (hts (.fieldLink RX4 28 "HookPier$Now" "landedBy" "[I") (List.mem_of_getElem? (i := 10) rfl)) (fun _ h9 => h9) rfl dX4_become_61 ?_
  refine lv_iconst (v := 0) hx hb dX4_become_64 (by decide) ?_
  refine lv_aload_n hx hb dX4_become_65 rfl (lv_at hl 0 rfl) ?_
  refine va_get (D := (dC, dI)) (ci := 3) (v := .ref a4) (C := RX4) (T := TX4) (N := 7) hx hb hts iX4_become_X4 hown hK hP 0 rfl rfl 5 (by decide) (hts (.fieldLink RX4 28 "HookPier$Now" "landedBy" "[I") (List.mem_of_getElem? (i := 10) rfl)) (fun _ h9 => h9) rfl dX4_become_66 ?_
  refine lv_iconst (v := 0) hx hb dX4_become_69 (by decide) ?_
  refine lv_aload_n hx hb dX4_become_70 rfl (lv_at hl 0 rfl) ?_
  refine va_get (D := (dC, dI)) (ci := 3) (v := .ref a4) (C := RX4) (T := TX4) (N := 7) hx hb hts iX4_become_X4 hown hK hP 0 rfl rfl 5 (by decide) (hts (.fieldLink RX4 28 "HookPier$Now" "landedBy" "[I") (List.mem_of_getElem? (i := 10) rfl)) (fun _ h9 => h9) rfl dX4_become_71 ?_
  refine va_alen (v := 6) hx hb hK hP 4 2 rfl rfl rfl dX4_become_74 ?_
  refine va_copyi hx hb (by rw [hml]; exact hl.1.symm) hown (hts (.methodLink RX4 34 arraycopyName) (List.mem_of_getElem? (i := 5) rfl)) (hts (.native arraycopyName) (List.mem_of_getElem? (i := 6) rfl)) (hts (.static arraycopyName) (List.mem_of_getElem? (i := 7) rfl)) (hts (.initialized "java/lang/System") (List.mem_of_getElem? (i := 8) rfl)) hK hP hD hS 8 4 6 2 rfl rfl rfl rfl rfl (by decide) (by decide) (by decide) (by decide) (by decide) (fun _ _ => rfl) (Nat.le_of_ble_eq_true rfl) (Nat.le_of_ble_eq_true rfl) dX4_become_75 (fun H locs hP hD hS => ?_)
  have hP : va_P (dC, dI) vwCl [(a0, .inr (3, [.int k13, .int k14, .int k15, .ref a2, .ref a3, .ref a4, .ref a5])), (a1, .inr (3, [.int k13, .int k14, .int k15, .ref a6, .ref a7, .ref a8, .ref a9])), (a2, .inl (cB16, 6, .inl f1)), (a3, .inl (cB18, 6, .inl f2)), (a4, .inl (cB20, 6, .inl (va_cpy f29 f21 (0 : Int32).toNatClampNeg (0 : Int32).toNatClampNeg (6 : Int32).toNatClampNeg))), (a5, .inl (cB22, 5, .inl f23)), (a6, .inl (cB24, 6, .inl f25)), (a7, .inl (cB26, 6, .inl f27)), (a8, .inl (cB28, 6, .inl f29)), (a9, .inl (cB30, 5, .inl f31))] H := hP
  have hD : va_D A [(a0, .inr (3, [.int k13, .int k14, .int k15, .ref a2, .ref a3, .ref a4, .ref a5])), (a1, .inr (3, [.int k13, .int k14, .int k15, .ref a6, .ref a7, .ref a8, .ref a9])), (a2, .inl (cB16, 6, .inl f1)), (a3, .inl (cB18, 6, .inl f2)), (a4, .inl (cB20, 6, .inl (va_cpy f29 f21 (0 : Int32).toNatClampNeg (0 : Int32).toNatClampNeg (6 : Int32).toNatClampNeg))), (a5, .inl (cB22, 5, .inl f23)), (a6, .inl (cB24, 6, .inl f25)), (a7, .inl (cB26, 6, .inl f27)), (a8, .inl (cB28, 6, .inl f29)), (a9, .inl (cB30, 5, .inl f31))] := hD
  generalize va_cpy f29 f21 (0 : Int32).toNatClampNeg (0 : Int32).toNatClampNeg (6 : Int32).toNatClampNeg = f3 at hP hD
  refine lv_aload_n hx hb dX4_become_78 rfl (lv_at hl 0 rfl) ?_
  refine lv_aload_n hx hb dX4_become_79 rfl (lv_at hl 1 rfl) ?_
  refine cl_v (wc := [(a0, .inr (3, [.int k13, .int k14, .int k15, .ref a2, .ref a3, .ref a4, .ref a5])), (a1, .inr (3, [.int k13, .int k14, .int k15, .ref a6, .ref a7, .ref a8, .ref a9])), (a5, .inl (cB22, 5, .inl f23)), (a9, .inl (cB30, 5, .inl f31))]) (wr := [(a2, .inl (cB16, 6, .inl f1)), (a3, .inl (cB18, 6, .inl f2)), (a4, .inl (cB20, 6, .inl f3)), (a6, .inl (cB24, 6, .inl f25)), (a7, .inl (cB26, 6, .inl f27)), (a8, .inl (cB28, 6, .inl f29))]) (va_runV (As := [.ref a1]) (rest := []) ⟨hx, hb, hml, hown, hts⟩ (kX4_letDownAs l dC dI a0 a1 a5 a9 (.int k13) (.int k14) (.int k15) (.ref a2) (.ref a3) (.ref a4) (.int k13) (.int k14) (.int k15) (.ref a6) (.ref a7) (.ref a8) cB22 f23 cB30 f31  H.size) (cwV 1 hts gX4_become_0 rfl rfl rfl (by decide +kernel) ⟨Nat.le_of_ble_eq_true rfl, Nat.le_of_ble_eq_true rfl⟩) (PV (hP.sub (ws' := [(a0, .inr (3, [.int k13, .int k14, .int k15, .ref a2, .ref a3, .ref a4, .ref a5])), (a1, .inr (3, [.int k13, .int k14, .int k15, .ref a6, .ref a7, .ref a8, .ref a9])), (a5, .inl (cB22, 5, .inl f23)), (a9, .inl (cB30, 5, .inl f31))]) [0, 1, 5, 9] rfl) (hK.sub (tys' := [(cB22, .int), (cB30, .int)]) [3, 7] rfl) (hD.sub (ws' := [(a0, .inr (3, [.int k13, .int k14, .int k15, .ref a2, .ref a3, .ref a4, .ref a5])), (a1, .inr (3, [.int k13, .int k14, .int k15, .ref a6, .ref a7, .ref a8, .ref a9])), (a5, .inl (cB22, 5, .inl f23)), (a9, .inl (cB30, 5, .inl f31))]) [0, 1, 5, 9] (by decide) rfl) hN 0 rfl rfl) rfl rfl hl.1 rfl (lv_room (Nat.le_of_ble_eq_true rfl)) dX4_become_80 ⟨Nat.le_of_ble_eq_true rfl, Nat.le_of_ble_eq_true rfl⟩) hP hD hK hS hA [0, 1, 5, 9] [2, 3, 4, 6, 7, 8] rfl rfl (by decide) (by decide) (fun f4 H locs hw hP hD hK hS => ?_)
  have b5 := hw
  have hP : va_P (dC, dI) vwCl [(a2, .inl (cB16, 6, .inl f1)), (a3, .inl (cB18, 6, .inl f2)), (a4, .inl (cB20, 6, .inl f3)), (a6, .inl (cB24, 6, .inl f25)), (a7, .inl (cB26, 6, .inl f27)), (a8, .inl (cB28, 6, .inl f29)), (a0, .inr (3, [.int k13, .int k14, .int k15, .ref a2, .ref a3, .ref a4, .ref a5])), (a1, .inr (3, [.int k13, .int k14, .int k15, .ref a6, .ref a7, .ref a8, .ref a9])), (a5, .inl (cB22, 5, .inl f4)), (a9, .inl (cB30, 5, .inl f31))] H := hP
  have hD : va_D A [(a2, .inl (cB16, 6, .inl f1)), (a3, .inl (cB18, 6, .inl f2)), (a4, .inl (cB20, 6, .inl f3)), (a6, .inl (cB24, 6, .inl f25)), (a7, .inl (cB26, 6, .inl f27)), (a8, .inl (cB28, 6, .inl f29)), (a0, .inr (3, [.int k13, .int k14, .int k15, .ref a2, .ref a3, .ref a4, .ref a5])), (a1, .inr (3, [.int k13, .int k14, .int k15, .ref a6, .ref a7, .ref a8, .ref a9])), (a5, .inl (cB22, 5, .inl f4)), (a9, .inl (cB30, 5, .inl f31))] := hD
  have hK : va_K (dC, dI) vwCl [(cB16, .int), (cB18, .int), (cB20, .int), (cB22, .int), (cB24, .int), (cB26, .int), (cB28, .int), (cB30, .int)] s := hK
  have hP9 := hP.sub (ws' := [(a0, .inr (3, [.int k13, .int k14, .int k15, .ref a2, .ref a3, .ref a4, .ref a5])), (a1, .inr (3, [.int k13, .int k14, .int k15, .ref a6, .ref a7, .ref a8, .ref a9])), (a2, .inl (cB16, 6, .inl f1)), (a3, .inl (cB18, 6, .inl f2)), (a4, .inl (cB20, 6, .inl f3)), (a5, .inl (cB22, 5, .inl f4)), (a6, .inl (cB24, 6, .inl f25)), (a7, .inl (cB26, 6, .inl f27)), (a8, .inl (cB28, 6, .inl f29)), (a9, .inl (cB30, 5, .inl f31))]) [6, 7, 0, 1, 2, 8, 3, 4, 5, 9] rfl
  have hD9 := hD.sub (ws' := [(a0, .inr (3, [.int k13, .int k14, .int k15, .ref a2, .ref a3, .ref a4, .ref a5])), (a1, .inr (3, [.int k13, .int k14, .int k15, .ref a6, .ref a7, .ref a8, .ref a9])), (a2, .inl (cB16, 6, .inl f1)), (a3, .inl (cB18, 6, .inl f2)), (a4, .inl (cB20, 6, .inl f3)), (a5, .inl (cB22, 5, .inl f4)), (a6, .inl (cB24, 6, .inl f25)), (a7, .inl (cB26, 6, .inl f27)), (a8, .inl (cB28, 6, .inl f29)), (a9, .inl (cB30, 5, .inl f31))]) [6, 7, 0, 1, 2, 8, 3, 4, 5, 9] (by decide) rfl
  have hK9 := hK.sub (tys' := []) [] rfl
  exact W.vret hx hb hr (fun t ht hW => ⟨⟨(k13, k14, k15, f1, f2, f3, f4), rfl, trivial, by rw [ht]; exact hP9, va_K.moved hW.alike hK9, hD9⟩, hS.F ht⟩) hS.2.2 dX4_become_83
theorem dJ6_bitCount_0f7a4_0 : decode cJ6_bitCount_0f7a4 0 = .ok (.iload_n 0, 1) := by decide +kernel
theorem dJ6_bitCount_0f7a4_1 : decode cJ6_bitCount_0f7a4 1 = .ok (.iload_n 0, 1) := by decide +kernel
theorem dJ6_bitCount_0f7a4_10 : decode cJ6_bitCount_0f7a4 10 = .ok (.iload_n 0, 1) := by decide +kernel
theorem dJ6_bitCount_0f7a4_11 : decode cJ6_bitCount_0f7a4 11 = .ok (.ldc_w 266, 3) := by decide +kernel
theorem dJ6_bitCount_0f7a4_14 : decode cJ6_bitCount_0f7a4 14 = .ok (.iand, 1) := by decide +kernel
theorem dJ6_bitCount_0f7a4_15 : decode cJ6_bitCount_0f7a4 15 = .ok (.iload_n 0, 1) := by decide +kernel
theorem dJ6_bitCount_0f7a4_16 : decode cJ6_bitCount_0f7a4 16 = .ok (.iconst 2, 1) := by decide +kernel
theorem dJ6_bitCount_0f7a4_17 : decode cJ6_bitCount_0f7a4 17 = .ok (.iushr, 1) := by decide +kernel
theorem dJ6_bitCount_0f7a4_18 : decode cJ6_bitCount_0f7a4 18 = .ok (.ldc_w 266, 3) := by decide +kernel
theorem dJ6_bitCount_0f7a4_2 : decode cJ6_bitCount_0f7a4 2 = .ok (.iconst 1, 1) := by decide +kernel
theorem dJ6_bitCount_0f7a4_21 : decode cJ6_bitCount_0f7a4 21 = .ok (.iand, 1) := by decide +kernel
theorem dJ6_bitCount_0f7a4_22 : decode cJ6_bitCount_0f7a4 22 = .ok (.iadd, 1) := by decide +kernel
theorem dJ6_bitCount_0f7a4_23 : decode cJ6_bitCount_0f7a4 23 = .ok (.istore_n 0, 1) := by decide +kernel
theorem dJ6_bitCount_0f7a4_24 : decode cJ6_bitCount_0f7a4 24 = .ok (.iload_n 0, 1) := by decide +kernel
theorem dJ6_bitCount_0f7a4_25 : decode cJ6_bitCount_0f7a4 25 = .ok (.iload_n 0, 1) := by decide +kernel
theorem dJ6_bitCount_0f7a4_26 : decode cJ6_bitCount_0f7a4 26 = .ok (.iconst 4, 1) := by decide +kernel
theorem dJ6_bitCount_0f7a4_27 : decode cJ6_bitCount_0f7a4 27 = .ok (.iushr, 1) := by decide +kernel
theorem dJ6_bitCount_0f7a4_28 : decode cJ6_bitCount_0f7a4 28 = .ok (.iadd, 1) := by decide +kernel
theorem dJ6_bitCount_0f7a4_29 : decode cJ6_bitCount_0f7a4 29 = .ok (.ldc_w 267, 3) := by decide +kernel
theorem dJ6_bitCount_0f7a4_3 : decode cJ6_bitCount_0f7a4 3 = .ok (.iushr, 1) := by decide +kernel
theorem dJ6_bitCount_0f7a4_32 : decode cJ6_bitCount_0f7a4 32 = .ok (.iand, 1) := by decide +kernel
theorem dJ6_bitCount_0f7a4_33 : decode cJ6_bitCount_0f7a4 33 = .ok (.istore_n 0, 1) := by decide +kernel
theorem dJ6_bitCount_0f7a4_34 : decode cJ6_bitCount_0f7a4 34 = .ok (.iload_n 0, 1) := by decide +kernel
theorem dJ6_bitCount_0f7a4_35 : decode cJ6_bitCount_0f7a4 35 = .ok (.iload_n 0, 1) := by decide +kernel
theorem dJ6_bitCount_0f7a4_36 : decode cJ6_bitCount_0f7a4 36 = .ok (.bipush 8, 2) := by decide +kernel
theorem dJ6_bitCount_0f7a4_38 : decode cJ6_bitCount_0f7a4 38 = .ok (.iushr, 1) := by decide +kernel
theorem dJ6_bitCount_0f7a4_39 : decode cJ6_bitCount_0f7a4 39 = .ok (.iadd, 1) := by decide +kernel
theorem dJ6_bitCount_0f7a4_4 : decode cJ6_bitCount_0f7a4 4 = .ok (.ldc_w 265, 3) := by decide +kernel
theorem dJ6_bitCount_0f7a4_40 : decode cJ6_bitCount_0f7a4 40 = .ok (.istore_n 0, 1) := by decide +kernel
theorem dJ6_bitCount_0f7a4_41 : decode cJ6_bitCount_0f7a4 41 = .ok (.iload_n 0, 1) := by decide +kernel
theorem dJ6_bitCount_0f7a4_42 : decode cJ6_bitCount_0f7a4 42 = .ok (.iload_n 0, 1) := by decide +kernel
theorem dJ6_bitCount_0f7a4_43 : decode cJ6_bitCount_0f7a4 43 = .ok (.bipush 16, 2) := by decide +kernel
theorem dJ6_bitCount_0f7a4_45 : decode cJ6_bitCount_0f7a4 45 = .ok (.iushr, 1) := by decide +kernel
theorem dJ6_bitCount_0f7a4_46 : decode cJ6_bitCount_0f7a4 46 = .ok (.iadd, 1) := by decide +kernel
theorem dJ6_bitCount_0f7a4_47 : decode cJ6_bitCount_0f7a4 47 = .ok (.istore_n 0, 1) := by decide +kernel
theorem dJ6_bitCount_0f7a4_48 : decode cJ6_bitCount_0f7a4 48 = .ok (.iload_n 0, 1) := by decide +kernel
theorem dJ6_bitCount_0f7a4_49 : decode cJ6_bitCount_0f7a4 49 = .ok (.bipush 63, 2) := by decide +kernel
theorem dJ6_bitCount_0f7a4_51 : decode cJ6_bitCount_0f7a4 51 = .ok (.iand, 1) := by decide +kernel
theorem dJ6_bitCount_0f7a4_52 : decode cJ6_bitCount_0f7a4 52 = .ok (.ireturn, 1) := by decide +kernel
theorem dJ6_bitCount_0f7a4_7 : decode cJ6_bitCount_0f7a4 7 = .ok (.iand, 1) := by decide +kernel
theorem dJ6_bitCount_0f7a4_8 : decode cJ6_bitCount_0f7a4 8 = .ok (.isub, 1) := by decide +kernel
theorem dJ6_bitCount_0f7a4_9 : decode cJ6_bitCount_0f7a4 9 = .ok (.istore_n 0, 1) := by decide +kernel
def vJ6_bitCount_0f7a4 : List Cond := .code yJ6_bitCount_0f7a4 cJ6_bitCount_0f7a4 1 (some .int) :: ([.constant RJ6 265 (1431655765), .constant RJ6 266 (858993459), .constant RJ6 267 (252645135)])
set_option maxHeartbeats 2000000 in
set_option maxRecDepth 100000 in
theorem kJ6_bitCount_0f7a4 (l : Launch) (dC : Nat → ClassId) (dI : Nat → Nat → Nat) (k0 : Int32) (sz : Nat) : Met l yJ6_bitCount_0f7a4 vJ6_bitCount_0f7a4 ({ frames := 0, cells := 0, slots := 0, locals := 0 }) (PC (dC, dI) [.int k0] sz [] []) (va_Qi (S := Unit) (fun (r : Int32) _ => True) (fun _ t => BC (dC, dI) (va_A [] sz) [] [] t) (va_A [] sz)) 0 0 (va_A [] sz) := by
  refine va_MetF (cc := cJ6_bitCount_0f7a4) (maxL := 1) (ret := (some .int)) (by decide) rfl ?_
  intro p e s m args below meth c s₁ B hml hv
  obtain ⟨rfl, hsz, hP, hK, hD0, hN⟩ := hv
  have hx := B.exec
  have hb := B.bytes
  have hr := B.returns
  have hts := atoms_spec (ws := vJ6_bitCount_0f7a4) B.pre
  have hown : s.vm.findClass RJ6 = some m.cls := findClass_of_methodNamed B.named
  have hlocks := B.notSynchronized
  subst hsz
  have hD := hD0.self (sz := s.heap.size)
  generalize hAe : va_A [] s.heap.size = A at hD ⊢
  have hA : ∀ q : Nat, s.heap.size ≤ q → A q := fun q h => by rw [← hAe]; exact Or.inr h
  have hS : va_S A s.heap s.heap [] := va_S.rf
  have hP : va_P (dC, dI) vwCl [] s.heap := hP
  have hl := lv_entry ([.int k0]) (n := 1) (Nat.le_of_ble_eq_true rfl)
  rw [lg_entry_eq]
  generalize (lg_sl ([.int k0]) ++ List.replicate (1 - (lg_sl ([.int k0])).length) Slot.unset).toArray = ls at hl ⊢
  have hl : lv_has ls 1 [(0, .int k0)] := hl
  refine lv_iload_n hx hb dJ6_bitCount_0f7a4_0 rfl (lv_at hl 0 rfl) ?_
  refine lv_iload_n hx hb dJ6_bitCount_0f7a4_1 rfl (lv_at hl 0 rfl) ?_
  refine lv_iconst (v := 1) hx hb dJ6_bitCount_0f7a4_2 (by decide) ?_
  refine lv_iushr hx hb dJ6_bitCount_0f7a4_3 rfl ?_
  refine lv_topi (fun z1 ez1 => ?_)
  clear ez1
  refine lv_ldcw hx hb hown (hts (.constant RJ6 265 (1431655765)) (List.mem_of_getElem? (i := 1) rfl)) dJ6_bitCount_0f7a4_4 ?_
  refine lv_iand hx hb dJ6_bitCount_0f7a4_7 ?_
  refine lv_topi (fun z2 ez2 => ?_)
  clear ez2
  refine lv_isub hx hb dJ6_bitCount_0f7a4_8 ?_
  refine lv_topi (fun z3 ez3 => ?_)
  clear ez3
  refine lv_istore_n (lv' := [(0, .int z3)]) hx hb dJ6_bitCount_0f7a4_9 rfl hl (by decide) rfl (fun ls hl => ?_)
  refine lv_iload_n hx hb dJ6_bitCount_0f7a4_10 rfl (lv_at hl 0 rfl) ?_
  refine lv_ldcw hx hb hown (hts (.constant RJ6 266 (858993459)) (List.mem_of_getElem? (i := 2) rfl)) dJ6_bitCount_0f7a4_11 ?_
  refine lv_iand hx hb dJ6_bitCount_0f7a4_14 ?_
  refine lv_topi (fun z4 ez4 => ?_)
  clear ez4
  refine lv_iload_n hx hb dJ6_bitCount_0f7a4_15 rfl (lv_at hl 0 rfl) ?_
  refine lv_iconst (v := 2) hx hb dJ6_bitCount_0f7a4_16 (by decide) ?_
  refine lv_iushr hx hb dJ6_bitCount_0f7a4_17 rfl ?_
  refine lv_topi (fun z5 ez5 => ?_)
  clear ez5
  refine lv_ldcw hx hb hown (hts (.constant RJ6 266 (858993459)) (List.mem_of_getElem? (i := 2) rfl)) dJ6_bitCount_0f7a4_18 ?_
  refine lv_iand hx hb dJ6_bitCount_0f7a4_21 ?_
  refine lv_topi (fun z6 ez6 => ?_)
  clear ez6
  refine lv_iadd hx hb dJ6_bitCount_0f7a4_22 ?_
  refine lv_topi (fun z7 ez7 => ?_)
  clear ez7
  refine lv_istore_n (lv' := [(0, .int z7)]) hx hb dJ6_bitCount_0f7a4_23 rfl hl (by decide) rfl (fun ls hl => ?_)
  refine lv_iload_n hx hb dJ6_bitCount_0f7a4_24 rfl (lv_at hl 0 rfl) ?_
  refine lv_iload_n hx hb dJ6_bitCount_0f7a4_25 rfl (lv_at hl 0 rfl) ?_
  refine lv_iconst (v := 4) hx hb dJ6_bitCount_0f7a4_26 (by decide) ?_
  refine lv_iushr hx hb dJ6_bitCount_0f7a4_27 rfl ?_
  refine lv_topi (fun z8 ez8 => ?_)
  clear ez8
  refine lv_iadd hx hb dJ6_bitCount_0f7a4_28 ?_
  refine lv_topi (fun z9 ez9 => ?_)
  clear ez9
  refine lv_ldcw hx hb hown (hts (.constant RJ6 267 (252645135)) (List.mem_of_getElem? (i := 3) rfl)) dJ6_bitCount_0f7a4_29 ?_
  refine lv_iand hx hb dJ6_bitCount_0f7a4_32 ?_
  refine lv_topi (fun z10 ez10 => ?_)
  clear ez10
  refine lv_istore_n (lv' := [(0, .int z10)]) hx hb dJ6_bitCount_0f7a4_33 rfl hl (by decide) rfl (fun ls hl => ?_)
  refine lv_iload_n hx hb dJ6_bitCount_0f7a4_34 rfl (lv_at hl 0 rfl) ?_
  refine lv_iload_n hx hb dJ6_bitCount_0f7a4_35 rfl (lv_at hl 0 rfl) ?_
  refine lv_bipush (v := 8) hx hb dJ6_bitCount_0f7a4_36 (by decide) ?_
  refine lv_iushr hx hb dJ6_bitCount_0f7a4_38 rfl ?_
  refine lv_topi (fun z11 ez11 => ?_)
  clear ez11
  refine lv_iadd hx hb dJ6_bitCount_0f7a4_39 ?_
  refine lv_topi (fun z12 ez12 => ?_)
  clear ez12
  refine lv_istore_n (lv' := [(0, .int z12)]) hx hb dJ6_bitCount_0f7a4_40 rfl hl (by decide) rfl (fun ls hl => ?_)
  refine lv_iload_n hx hb dJ6_bitCount_0f7a4_41 rfl (lv_at hl 0 rfl) ?_
  refine lv_iload_n hx hb dJ6_bitCount_0f7a4_42 rfl (lv_at hl 0 rfl) ?_
  refine lv_bipush (v := 16) hx hb dJ6_bitCount_0f7a4_43 (by decide) ?_
  refine lv_iushr hx hb dJ6_bitCount_0f7a4_45 rfl ?_
  refine lv_topi (fun z13 ez13 => ?_)
  clear ez13
  refine lv_iadd hx hb dJ6_bitCount_0f7a4_46 ?_
  refine lv_topi (fun z14 ez14 => ?_)
  clear ez14
  refine lv_istore_n (lv' := [(0, .int z14)]) hx hb dJ6_bitCount_0f7a4_47 rfl hl (by decide) rfl (fun ls hl => ?_)
  refine lv_iload_n hx hb dJ6_bitCount_0f7a4_48 rfl (lv_at hl 0 rfl) ?_
  refine lv_bipush (v := 63) hx hb dJ6_bitCount_0f7a4_49 (by decide) ?_
  refine lv_iand hx hb dJ6_bitCount_0f7a4_51 ?_
  refine lv_topi (fun z15 ez15 => ?_)
  clear ez15
  have hP9 := hP.sub (ws' := []) [] rfl
  have hD9 := hD.sub (ws' := []) [] (by decide) rfl
  have hK9 := hK.sub (tys' := []) [] rfl
  exact W.iret (v := z15) hx hb hr (fun t ht hW => ⟨⟨z15, (), rfl, trivial, by rw [ht]; exact hP9, va_K.moved hW.alike hK9, hD9⟩, hS.F ht⟩) hS.2.2 dJ6_bitCount_0f7a4_52
theorem dX3_bestLoad_0 : decode cX3_bestLoad 0 = .ok (.aload_n 0, 1) := by decide +kernel
theorem dX3_bestLoad_1 : decode cX3_bestLoad 1 = .ok (.aload_n 1, 1) := by decide +kernel
theorem dX3_bestLoad_10 : decode cX3_bestLoad 10 = .ok (.istore 5, 2) := by decide +kernel
theorem dX3_bestLoad_102 : decode cX3_bestLoad 102 = .ok (.goto (-87), 3) := by decide +kernel
theorem dX3_bestLoad_105 : decode cX3_bestLoad 105 = .ok (.iload 4, 2) := by decide +kernel
theorem dX3_bestLoad_107 : decode cX3_bestLoad 107 = .ok (.ireturn, 1) := by decide +kernel
theorem dX3_bestLoad_12 : decode cX3_bestLoad 12 = .ok (.iconst 1, 1) := by decide +kernel
theorem dX3_bestLoad_13 : decode cX3_bestLoad 13 = .ok (.istore 6, 2) := by decide +kernel
theorem dX3_bestLoad_15 : decode cX3_bestLoad 15 = .ok (.iload 6, 2) := by decide +kernel
theorem dX3_bestLoad_17 : decode cX3_bestLoad 17 = .ok (.iload_n 3, 1) := by decide +kernel
theorem dX3_bestLoad_18 : decode cX3_bestLoad 18 = .ok (.if_icmp .gt 87, 3) := by decide +kernel
theorem dX3_bestLoad_2 : decode cX3_bestLoad 2 = .ok (.invokestatic 34, 3) := by decide +kernel
theorem dX3_bestLoad_21 : decode cX3_bestLoad 21 = .ok (.iload 6, 2) := by decide +kernel
theorem dX3_bestLoad_23 : decode cX3_bestLoad 23 = .ok (.iload_n 3, 1) := by decide +kernel
theorem dX3_bestLoad_24 : decode cX3_bestLoad 24 = .ok (.iconst (-1), 1) := by decide +kernel
theorem dX3_bestLoad_25 : decode cX3_bestLoad 25 = .ok (.ixor, 1) := by decide +kernel
theorem dX3_bestLoad_26 : decode cX3_bestLoad 26 = .ok (.iand, 1) := by decide +kernel
theorem dX3_bestLoad_27 : decode cX3_bestLoad 27 = .ok (.ifCond .ne 72, 3) := by decide +kernel
theorem dX3_bestLoad_30 : decode cX3_bestLoad 30 = .ok (.iload 6, 2) := by decide +kernel
theorem dX3_bestLoad_32 : decode cX3_bestLoad 32 = .ok (.invokestatic 38, 3) := by decide +kernel
theorem dX3_bestLoad_35 : decode cX3_bestLoad 35 = .ok (.iload_n 2, 1) := by decide +kernel
theorem dX3_bestLoad_36 : decode cX3_bestLoad 36 = .ok (.if_icmp .gt 63, 3) := by decide +kernel
theorem dX3_bestLoad_39 : decode cX3_bestLoad 39 = .ok (.aload_n 0, 1) := by decide +kernel
theorem dX3_bestLoad_40 : decode cX3_bestLoad 40 = .ok (.aload_n 1, 1) := by decide +kernel
theorem dX3_bestLoad_41 : decode cX3_bestLoad 41 = .ok (.iload 6, 2) := by decide +kernel
theorem dX3_bestLoad_43 : decode cX3_bestLoad 43 = .ok (.aload_n 1, 1) := by decide +kernel
theorem dX3_bestLoad_44 : decode cX3_bestLoad 44 = .ok (.getfield 44, 3) := by decide +kernel
theorem dX3_bestLoad_47 : decode cX3_bestLoad 47 = .ok (.invokestatic 47, 3) := by decide +kernel
theorem dX3_bestLoad_5 : decode cX3_bestLoad 5 = .ok (.istore_n 3, 1) := by decide +kernel
theorem dX3_bestLoad_50 : decode cX3_bestLoad 50 = .ok (.istore 7, 2) := by decide +kernel
theorem dX3_bestLoad_52 : decode cX3_bestLoad 52 = .ok (.iload 6, 2) := by decide +kernel
theorem dX3_bestLoad_54 : decode cX3_bestLoad 54 = .ok (.invokestatic 38, 3) := by decide +kernel
theorem dX3_bestLoad_57 : decode cX3_bestLoad 57 = .ok (.iload 4, 2) := by decide +kernel
theorem dX3_bestLoad_59 : decode cX3_bestLoad 59 = .ok (.invokestatic 38, 3) := by decide +kernel
theorem dX3_bestLoad_6 : decode cX3_bestLoad 6 = .ok (.iconst 0, 1) := by decide +kernel
theorem dX3_bestLoad_62 : decode cX3_bestLoad 62 = .ok (.if_icmp .ge 7, 3) := by decide +kernel
theorem dX3_bestLoad_65 : decode cX3_bestLoad 65 = .ok (.iconst 1, 1) := by decide +kernel
theorem dX3_bestLoad_66 : decode cX3_bestLoad 66 = .ok (.goto 4, 3) := by decide +kernel
theorem dX3_bestLoad_69 : decode cX3_bestLoad 69 = .ok (.iconst 0, 1) := by decide +kernel
theorem dX3_bestLoad_7 : decode cX3_bestLoad 7 = .ok (.istore 4, 2) := by decide +kernel
theorem dX3_bestLoad_70 : decode cX3_bestLoad 70 = .ok (.istore 8, 2) := by decide +kernel
theorem dX3_bestLoad_72 : decode cX3_bestLoad 72 = .ok (.iload 7, 2) := by decide +kernel
theorem dX3_bestLoad_74 : decode cX3_bestLoad 74 = .ok (.iload 5, 2) := by decide +kernel
theorem dX3_bestLoad_76 : decode cX3_bestLoad 76 = .ok (.if_icmp .gt 15, 3) := by decide +kernel
theorem dX3_bestLoad_79 : decode cX3_bestLoad 79 = .ok (.iload 7, 2) := by decide +kernel
theorem dX3_bestLoad_81 : decode cX3_bestLoad 81 = .ok (.iload 5, 2) := by decide +kernel
theorem dX3_bestLoad_83 : decode cX3_bestLoad 83 = .ok (.if_icmp .ne 16, 3) := by decide +kernel
theorem dX3_bestLoad_86 : decode cX3_bestLoad 86 = .ok (.iload 8, 2) := by decide +kernel
theorem dX3_bestLoad_88 : decode cX3_bestLoad 88 = .ok (.ifCond .eq 11, 3) := by decide +kernel
theorem dX3_bestLoad_9 : decode cX3_bestLoad 9 = .ok (.iconst 0, 1) := by decide +kernel
theorem dX3_bestLoad_91 : decode cX3_bestLoad 91 = .ok (.iload 7, 2) := by decide +kernel
theorem dX3_bestLoad_93 : decode cX3_bestLoad 93 = .ok (.istore 5, 2) := by decide +kernel
theorem dX3_bestLoad_95 : decode cX3_bestLoad 95 = .ok (.iload 6, 2) := by decide +kernel
theorem dX3_bestLoad_97 : decode cX3_bestLoad 97 = .ok (.istore 4, 2) := by decide +kernel
theorem dX3_bestLoad_99 : decode cX3_bestLoad 99 = .ok (.iinc 6 1, 3) := by decide +kernel
def vX3_bestLoad : List Cond := .code yX3_bestLoad cX3_bestLoad 9 (some .int) :: ([.methodLink RX3 34 yX3_unsold, .static yX3_unsold, .initialized RX3, .code yX3_unsold cX3_unsold 4 (some .int), .fieldLink RX3 21 "HookPier$Plan" "answers" "I", .fieldLink RX3 25 "HookPier$Now" "stage" "[I", .methodLink RX3 38 yJ6_bitCount_0f7a4, .static yJ6_bitCount_0f7a4, .initialized RJ6, .code yJ6_bitCount_0f7a4 cJ6_bitCount_0f7a4 1 (some .int), .constant RJ6 265 (1431655765), .constant RJ6 266 (858993459), .constant RJ6 267 (252645135), .fieldLink RX3 44 "HookPier$Now" "today" "I", .methodLink RX3 47 yX3_worthTogether, .static yX3_worthTogether, .code yX3_worthTogether cX3_worthTogether 6 (some .int), .methodLink RX3 28 yX3_worthOn, .static yX3_worthOn, .code yX3_worthOn cX3_worthOn 4 (some .int), .fieldLink RX3 9 "HookPier$Now" "landedOn" "[I", .methodLink RX3 15 yX6_worthAfter, .instanceMethod yX6_worthAfter, .selects RX6 yX6_worthAfter yX6_worthAfter, .initialized RX6, .code yX6_worthAfter cX6_worthAfter 3 (some .int), .fieldLink RX6 43 "HookPier$Plan" "kind" "[I", .fieldLink RX6 58 "HookPier$Plan" "told" "[I", .methodLink RX6 102 Lib.Math.max.name, .static Lib.Math.max.name, .initialized "java/lang/Math", .code Lib.Math.max.name Lib.Math.max.code 2 (some .int), .methodLink RX6 98 Lib.Math.min.name, .static Lib.Math.min.name, .code Lib.Math.min.name Lib.Math.min.code 2 (some .int)] ++ wsX60 ++ wsX40)
theorem iX3_bestLoad_X6 : ∀ w ∈ wsX60, w ∈ vX3_bestLoad := fun _ h => List.mem_cons_of_mem _ (List.mem_append_left _ (List.mem_append_right _ h))
theorem iX3_bestLoad_X4 : ∀ w ∈ wsX40, w ∈ vX3_bestLoad := fun _ h => List.mem_cons_of_mem _ (List.mem_append_right _ h)
set_option maxRecDepth 20000 in
theorem gX3_bestLoad_0 : GoodIn vX3_bestLoad (va_wsS RX3 34 yX3_unsold vX3_unsold) := goodIn_app (goodIn_r [.methodLink RX3 34 yX3_unsold, .static yX3_unsold, .initialized RX3] [1, 2, 3] (by decide +kernel) (by decide +kernel)) (goodIn_ca (goodIn_ca (goodIn_r (.code yX3_unsold cX3_unsold 4 (some .int) :: [.fieldLink RX3 21 "HookPier$Plan" "answers" "I", .fieldLink RX3 25 "HookPier$Now" "stage" "[I"]) [4, 5, 6] (by decide +kernel) (by decide +kernel) : GoodIn vX3_bestLoad (.code yX3_unsold cX3_unsold 4 (some .int) :: [.fieldLink RX3 21 "HookPier$Plan" "answers" "I", .fieldLink RX3 25 "HookPier$Now" "stage" "[I"])) (goodIn_sub iX3_bestLoad_X6 (by decide +kernel))) (goodIn_sub iX3_bestLoad_X4 (by decide +kernel)))
set_option maxRecDepth 20000 in
theorem gX3_bestLoad_1 : GoodIn vX3_bestLoad (va_wsS RX3 38 yJ6_bitCount_0f7a4 vJ6_bitCount_0f7a4) := goodIn_app (goodIn_r [.methodLink RX3 38 yJ6_bitCount_0f7a4, .static yJ6_bitCount_0f7a4, .initialized RJ6] [7, 8, 9] (by decide +kernel) (by decide +kernel)) (goodIn_r (.code yJ6_bitCount_0f7a4 cJ6_bitCount_0f7a4 1 (some .int) :: [.constant RJ6 265 (1431655765), .constant RJ6 266 (858993459), .constant RJ6 267 (252645135)]) [10, 11, 12, 13] (by decide +kernel) (by decide +kernel) : GoodIn vX3_bestLoad (.code yJ6_bitCount_0f7a4 cJ6_bitCount_0f7a4 1 (some .int) :: [.constant RJ6 265 (1431655765), .constant RJ6 266 (858993459), .constant RJ6 267 (252645135)]))
set_option maxRecDepth 20000 in
theorem gX3_bestLoad_2 : GoodIn vX3_bestLoad (va_wsS RX3 47 yX3_worthTogether vX3_worthTogether) := goodIn_app (goodIn_r [.methodLink RX3 47 yX3_worthTogether, .static yX3_worthTogether, .initialized RX3] [15, 16, 3] (by decide +kernel) (by decide +kernel)) (goodIn_ca (goodIn_ca (goodIn_r (.code yX3_worthTogether cX3_worthTogether 6 (some .int) :: [.fieldLink RX3 21 "HookPier$Plan" "answers" "I", .methodLink RX3 28 yX3_worthOn, .static yX3_worthOn, .initialized RX3, .code yX3_worthOn cX3_worthOn 4 (some .int), .fieldLink RX3 9 "HookPier$Now" "landedOn" "[I", .methodLink RX3 15 yX6_worthAfter, .instanceMethod yX6_worthAfter, .selects RX6 yX6_worthAfter yX6_worthAfter, .initialized RX6, .code yX6_worthAfter cX6_worthAfter 3 (some .int), .fieldLink RX6 43 "HookPier$Plan" "kind" "[I", .fieldLink RX6 58 "HookPier$Plan" "told" "[I", .methodLink RX6 102 Lib.Math.max.name, .static Lib.Math.max.name, .initialized "java/lang/Math", .code Lib.Math.max.name Lib.Math.max.code 2 (some .int), .methodLink RX6 98 Lib.Math.min.name, .static Lib.Math.min.name, .code Lib.Math.min.name Lib.Math.min.code 2 (some .int)]) [17, 5, 18, 19, 3, 20, 21, 22, 23, 24, 25, 26, 27, 28, 29, 30, 31, 32, 33, 34, 35] (by decide +kernel) (by decide +kernel) : GoodIn vX3_bestLoad (.code yX3_worthTogether cX3_worthTogether 6 (some .int) :: [.fieldLink RX3 21 "HookPier$Plan" "answers" "I", .methodLink RX3 28 yX3_worthOn, .static yX3_worthOn, .initialized RX3, .code yX3_worthOn cX3_worthOn 4 (some .int), .fieldLink RX3 9 "HookPier$Now" "landedOn" "[I", .methodLink RX3 15 yX6_worthAfter, .instanceMethod yX6_worthAfter, .selects RX6 yX6_worthAfter yX6_worthAfter, .initialized RX6, .code yX6_worthAfter cX6_worthAfter 3 (some .int), .fieldLink RX6 43 "HookPier$Plan" "kind" "[I", .fieldLink RX6 58 "HookPier$Plan" "told" "[I", .methodLink RX6 102 Lib.Math.max.name, .static Lib.Math.max.name, .initialized "java/lang/Math", .code Lib.Math.max.name Lib.Math.max.code 2 (some .int), .methodLink RX6 98 Lib.Math.min.name, .static Lib.Math.min.name, .code Lib.Math.min.name Lib.Math.min.code 2 (some .int)])) (goodIn_sub iX3_bestLoad_X6 (by decide +kernel))) (goodIn_sub iX3_bestLoad_X4 (by decide +kernel)))
set_option maxHeartbeats 2000000 in
set_option maxRecDepth 100000 in
theorem kX3_bestLoad (l : Launch) (dC : Nat → ClassId) (dI : Nat → Nat → Nat) (a0 : Nat) (a1 : Nat) (k2 : Int32) (a3 : Nat) (a4 : Nat) (a5 : Nat) (a6 : Nat) (g7 : Value) (g8 : Value) (g9 : Value) (g10 : Value) (g11 : Value) (g12 : Value) (k13 : Int32) (g14 : Value) (g15 : Value) (g16 : Value) (g17 : Value) (g18 : Value) (g19 : Value) (g20 : Value) (g21 : Value) (g22 : Value) (k23 : Int32) (g24 : Value) (g25 : Value) (g26 : Value) (g27 : Value) (cB28 : ClassId) (f29 : Nat → Int32) (cB30 : ClassId) (f31 : Nat → Int32) (cB32 : ClassId) (f33 : Nat → Int32) (cB34 : ClassId) (f35 : Nat → Int32) (hk13 : (0 ≤ k13.toInt ∧ k13.toInt ≤ 6)) (sz : Nat) : Met l yX3_bestLoad vX3_bestLoad ({ frames := 4, cells := 0, slots := 0, locals := 91 }) (PC (dC, dI) [.ref a0, .ref a1, .int k2] sz [(a0, .inr (4, [g7, g8, g9, g10, g11, g12, .int k13, g14, g15, g16, .ref a3, g17, g18, g19, g20, .ref a4, g21, g22])), (a1, .inr (3, [.int k23, g24, g25, .ref a5, .ref a6, g26, g27])), (a3, .inl (cB28, 6, .inl f29)), (a4, .inl (cB30, 6, .inl f31)), (a5, .inl (cB32, 6, .inl f33)), (a6, .inl (cB34, 6, .inl f35))] [(cB28, .int), (cB30, .int), (cB32, .int), (cB34, .int)]) (va_Qi (S := Unit) (fun (r : Int32) _ => (0 ≤ r.toInt ∧ r.toInt ≤ 63)) (fun _ t => BC (dC, dI) (va_A [(a0, .inr (4, [g7, g8, g9, g10, g11, g12, .int k13, g14, g15, g16, .ref a3, g17, g18, g19, g20, .ref a4, g21, g22])), (a1, .inr (3, [.int k23, g24, g25, .ref a5, .ref a6, g26, g27])), (a3, .inl (cB28, 6, .inl f29)), (a4, .inl (cB30, 6, .inl f31)), (a5, .inl (cB32, 6, .inl f33)), (a6, .inl (cB34, 6, .inl f35))] sz) [(a0, .inr (4, [g7, g8, g9, g10, g11, g12, .int k13, g14, g15, g16, .ref a3, g17, g18, g19, g20, .ref a4, g21, g22])), (a1, .inr (3, [.int k23, g24, g25, .ref a5, .ref a6, g26, g27])), (a3, .inl (cB28, 6, .inl f29)), (a4, .inl (cB30, 6, .inl f31)), (a5, .inl (cB32, 6, .inl f33)), (a6, .inl (cB34, 6, .inl f35))] [] t) (va_A [(a0, .inr (4, [g7, g8, g9, g10, g11, g12, .int k13, g14, g15, g16, .ref a3, g17, g18, g19, g20, .ref a4, g21, g22])), (a1, .inr (3, [.int k23, g24, g25, .ref a5, .ref a6, g26, g27])), (a3, .inl (cB28, 6, .inl f29)), (a4, .inl (cB30, 6, .inl f31)), (a5, .inl (cB32, 6, .inl f33)), (a6, .inl (cB34, 6, .inl f35))] sz)) 0 0 (va_A [(a0, .inr (4, [g7, g8, g9, g10, g11, g12, .int k13, g14, g15, g16, .ref a3, g17, g18, g19, g20, .ref a4, g21, g22])), (a1, .inr (3, [.int k23, g24, g25, .ref a5, .ref a6, g26, g27])), (a3, .inl (cB28, 6, .inl f29)), (a4, .inl (cB30, 6, .inl f31)), (a5, .inl (cB32, 6, .inl f33)), (a6, .inl (cB34, 6, .inl f35))] sz) := by
  refine Met.ofW (cc := cX3_bestLoad) (maxL := 9) (ret := (some .int)) (by decide) rfl ?_
  intro p e s m args below meth c s₁ B hml hv
  obtain ⟨rfl, hsz, hP, hK, hD0, hN⟩ := hv
  have hx := B.exec
  have hb := B.bytes
  have hr := B.returns
  have hts := atoms_spec (ws := vX3_bestLoad) B.pre
  have hown : s.vm.findClass RX3 = some m.cls := findClass_of_methodNamed B.named
  have hlocks := B.notSynchronized
  subst hsz
  have hD := hD0.self (sz := s.heap.size)
  generalize hAe : va_A [(a0, .inr (4, [g7, g8, g9, g10, g11, g12, .int k13, g14, g15, g16, .ref a3, g17, g18, g19, g20, .ref a4, g21, g22])), (a1, .inr (3, [.int k23, g24, g25, .ref a5, .ref a6, g26, g27])), (a3, .inl (cB28, 6, .inl f29)), (a4, .inl (cB30, 6, .inl f31)), (a5, .inl (cB32, 6, .inl f33)), (a6, .inl (cB34, 6, .inl f35))] s.heap.size = A at hD ⊢
  have hA : ∀ q : Nat, s.heap.size ≤ q → A q := fun q h => by rw [← hAe]; exact Or.inr h
  have hS : va_S A s.heap s.heap [] := va_S.rf
  have hP : va_P (dC, dI) vwCl [(a0, .inr (4, [g7, g8, g9, g10, g11, g12, .int k13, g14, g15, g16, .ref a3, g17, g18, g19, g20, .ref a4, g21, g22])), (a1, .inr (3, [.int k23, g24, g25, .ref a5, .ref a6, g26, g27])), (a3, .inl (cB28, 6, .inl f29)), (a4, .inl (cB30, 6, .inl f31)), (a5, .inl (cB32, 6, .inl f33)), (a6, .inl (cB34, 6, .inl f35))] s.heap := hP
  have hl := lv_entry ([.ref a0, .ref a1, .int k2]) (n := 9) (Nat.le_of_ble_eq_true rfl)
  rw [lg_entry_eq]
  generalize (lg_sl ([.ref a0, .ref a1, .int k2]) ++ List.replicate (9 - (lg_sl ([.ref a0, .ref a1, .int k2])).length) Slot.unset).toArray = ls at hl ⊢
  have hl : lv_has ls 9 [(0, .ref a0), (1, .ref a1), (2, .int k2)] := hl
  refine lv_aload_n hx hb dX3_bestLoad_0 rfl (lv_at hl 0 rfl) ?_
  refine lv_aload_n hx hb dX3_bestLoad_1 rfl (lv_at hl 1 rfl) ?_
  refine cl_i (wc := [(a0, .inr (4, [g7, g8, g9, g10, g11, g12, .int k13, g14, g15, g16, .ref a3, g17, g18, g19, g20, .ref a4, g21, g22])), (a1, .inr (3, [.int k23, g24, g25, .ref a5, .ref a6, g26, g27])), (a5, .inl (cB32, 6, .inl f33))]) (wr := [(a3, .inl (cB28, 6, .inl f29)), (a4, .inl (cB30, 6, .inl f31)), (a6, .inl (cB34, 6, .inl f35))]) (va_runS (As := [.ref a0, .ref a1]) (rest := []) ⟨hx, hb, hml, hown, hts⟩ (kX3_unsold l dC dI a0 a1 a5 (g7) (g8) (g9) (g10) (g11) (g12) k13 (g14) (g15) (g16) (.ref a3) (g17) (g18) (g19) (g20) (.ref a4) (g21) (g22) (.int k23) (g24) (g25) (.ref a6) (g26) (g27) cB32 f33 (by first | omega | (simp only [ltv_0]; omega)) s.heap.size) (va_cwS 2 hts gX3_bestLoad_0 rfl rfl rfl (by decide +kernel) ⟨Nat.le_of_ble_eq_true rfl, Nat.le_of_ble_eq_true rfl⟩) (PS (hP.sub (ws' := [(a0, .inr (4, [g7, g8, g9, g10, g11, g12, .int k13, g14, g15, g16, .ref a3, g17, g18, g19, g20, .ref a4, g21, g22])), (a1, .inr (3, [.int k23, g24, g25, .ref a5, .ref a6, g26, g27])), (a5, .inl (cB32, 6, .inl f33))]) [0, 1, 4] rfl) (hK.sub (tys' := [(cB32, .int)]) [2] rfl) (hD.sub (ws' := [(a0, .inr (4, [g7, g8, g9, g10, g11, g12, .int k13, g14, g15, g16, .ref a3, g17, g18, g19, g20, .ref a4, g21, g22])), (a1, .inr (3, [.int k23, g24, g25, .ref a5, .ref a6, g26, g27])), (a5, .inl (cB32, 6, .inl f33))]) [0, 1, 4] (by decide) rfl) hN) rfl rfl hl.1 rfl (lv_room (Nat.le_of_ble_eq_true rfl)) dX3_bestLoad_2 ⟨Nat.le_of_ble_eq_true rfl, Nat.le_of_ble_eq_true rfl⟩) hP hD hK hS hA [0, 1, 4] [2, 3, 5] rfl rfl (by decide) (by decide) (fun z1 _u H locs hw hP hD hK hS => ?_)
  have b2 := hw
  have hP : va_P (dC, dI) vwCl [(a3, .inl (cB28, 6, .inl f29)), (a4, .inl (cB30, 6, .inl f31)), (a6, .inl (cB34, 6, .inl f35)), (a0, .inr (4, [g7, g8, g9, g10, g11, g12, .int k13, g14, g15, g16, .ref a3, g17, g18, g19, g20, .ref a4, g21, g22])), (a1, .inr (3, [.int k23, g24, g25, .ref a5, .ref a6, g26, g27])), (a5, .inl (cB32, 6, .inl f33))] H := hP
  have hD : va_D A [(a3, .inl (cB28, 6, .inl f29)), (a4, .inl (cB30, 6, .inl f31)), (a6, .inl (cB34, 6, .inl f35)), (a0, .inr (4, [g7, g8, g9, g10, g11, g12, .int k13, g14, g15, g16, .ref a3, g17, g18, g19, g20, .ref a4, g21, g22])), (a1, .inr (3, [.int k23, g24, g25, .ref a5, .ref a6, g26, g27])), (a5, .inl (cB32, 6, .inl f33))] := hD
  have hK : va_K (dC, dI) vwCl [(cB28, .int), (cB30, .int), (cB32, .int), (cB34, .int)] s := hK
  refine lv_istore_n (lv' := [(3, .int z1), (0, .ref a0), (1, .ref a1), (2, .int k2)]) hx hb dX3_bestLoad_5 rfl hl (by decide) rfl (fun ls hl => ?_)
  refine lv_iconst (v := 0) hx hb dX3_bestLoad_6 (by decide) ?_
  refine lv_istore (lv' := [(4, .int 0), (3, .int z1), (0, .ref a0), (1, .ref a1), (2, .int k2)]) hx hb dX3_bestLoad_7 hl (by decide) rfl (fun ls hl => ?_)
  refine lv_iconst (v := 0) hx hb dX3_bestLoad_9 (by decide) ?_
  refine lv_istore (lv' := [(5, .int 0), (4, .int 0), (3, .int z1), (0, .ref a0), (1, .ref a1), (2, .int k2)]) hx hb dX3_bestLoad_10 hl (by decide) rfl (fun ls hl => ?_)
  refine lv_iconst (v := 1) hx hb dX3_bestLoad_12 (by decide) ?_
  refine lv_istore (lv' := [(6, .int 1), (5, .int 0), (4, .int 0), (3, .int z1), (0, .ref a0), (1, .ref a1), (2, .int k2)]) hx hb dX3_bestLoad_13 hl (by decide) rfl (fun ls hl => ?_)
  have L15_526 : ∀ (n : Nat) (z523 : Int32) (z524 : Int32) (z525 : Int32) (H : Heap) (locs : List Loc) (ls : Array Slot), (1 ≤ z523.toInt ∧ z523.toInt ≤ 64) → (0 ≤ z524.toInt) → (0 ≤ z525.toInt ∧ z525.toInt ≤ 63) → 64 - z523.toInt < (n : Int) → va_P (dC, dI) vwCl [(a3, .inl (cB28, 6, .inl f29)), (a4, .inl (cB30, 6, .inl f31)), (a6, .inl (cB34, 6, .inl f35)), (a0, .inr (4, [g7, g8, g9, g10, g11, g12, .int k13, g14, g15, g16, .ref a3, g17, g18, g19, g20, .ref a4, g21, g22])), (a1, .inr (3, [.int k23, g24, g25, .ref a5, .ref a6, g26, g27])), (a5, .inl (cB32, 6, .inl f33))] H → va_D A [(a3, .inl (cB28, 6, .inl f29)), (a4, .inl (cB30, 6, .inl f31)), (a6, .inl (cB34, 6, .inl f35)), (a0, .inr (4, [g7, g8, g9, g10, g11, g12, .int k13, g14, g15, g16, .ref a3, g17, g18, g19, g20, .ref a4, g21, g22])), (a1, .inr (3, [.int k23, g24, g25, .ref a5, .ref a6, g26, g27])), (a5, .inl (cB32, 6, .inl f33))] → va_S A s.heap H locs → lv_has ls 9 [(6, .int z523), (5, .int z524), (4, .int z525), (3, .int z1), (0, .ref a0), (1, .ref a1), (2, .int k2)] → W p l e (headSpec vX3_bestLoad { frames := 4, cells := 0, slots := 0, locals := 91 }).room s m ([.ref a0, .ref a1, .int k2]).toArray below meth c H locs 0 0 (MQ below (va_Qi (S := Unit) (fun (r : Int32) _ => (0 ≤ r.toInt ∧ r.toInt ≤ 63)) (fun _ t => BC (dC, dI) A [(a0, .inr (4, [g7, g8, g9, g10, g11, g12, .int k13, g14, g15, g16, .ref a3, g17, g18, g19, g20, .ref a4, g21, g22])), (a1, .inr (3, [.int k23, g24, g25, .ref a5, .ref a6, g26, g27])), (a3, .inl (cB28, 6, .inl f29)), (a4, .inl (cB30, 6, .inl f31)), (a5, .inl (cB32, 6, .inl f33)), (a6, .inl (cB34, 6, .inl f35))] [] t) A) ([.ref a0, .ref a1, .int k2]).toArray s 0 0 A) (F0 m 15 ls []) := by
    intro n
    induction n with
    | zero =>
      intro z523 z524 z525 H locs ls b15_0 b15_1 b15_2 hm _ _ _ _
      exact absurd hm (by omega)
    | succ n ih15 =>
      intro z523 z524 z525 H locs ls b15_0 b15_1 b15_2 hm15 hP hD hS hl
      refine lv_iload hx hb dX3_bestLoad_15 (lv_at hl 0 rfl) ?_
      refine lv_iload_n hx hb dX3_bestLoad_17 rfl (lv_at hl 3 rfl) ?_
      refine lv_icmp_gt (tgt := 105) hx hb dX3_bestLoad_18 (by decide) (fun c527 => ?_) (fun c527 => ?_)
      · simp only [fa_lt, fa_le, fa_eq, ltv_0] at c527
        refine lv_iload hx hb dX3_bestLoad_105 (lv_at hl 2 rfl) ?_
        have hP9 := hP.sub (ws' := [(a0, .inr (4, [g7, g8, g9, g10, g11, g12, .int k13, g14, g15, g16, .ref a3, g17, g18, g19, g20, .ref a4, g21, g22])), (a1, .inr (3, [.int k23, g24, g25, .ref a5, .ref a6, g26, g27])), (a3, .inl (cB28, 6, .inl f29)), (a4, .inl (cB30, 6, .inl f31)), (a5, .inl (cB32, 6, .inl f33)), (a6, .inl (cB34, 6, .inl f35))]) [3, 4, 0, 1, 5, 2] rfl
        have hD9 := hD.sub (ws' := [(a0, .inr (4, [g7, g8, g9, g10, g11, g12, .int k13, g14, g15, g16, .ref a3, g17, g18, g19, g20, .ref a4, g21, g22])), (a1, .inr (3, [.int k23, g24, g25, .ref a5, .ref a6, g26, g27])), (a3, .inl (cB28, 6, .inl f29)), (a4, .inl (cB30, 6, .inl f31)), (a5, .inl (cB32, 6, .inl f33)), (a6, .inl (cB34, 6, .inl f35))]) [3, 4, 0, 1, 5, 2] (by decide) rfl
        have hK9 := hK.sub (tys' := []) [] rfl
        exact W.iret (v := z525) hx hb hr (fun t ht hW => ⟨⟨z525, (), rfl, (by first | trivial | omega | (simp only [ltv_0]; omega)), by rw [ht]; exact hP9, va_K.moved hW.alike hK9, hD9⟩, hS.F ht⟩) hS.2.2 dX3_bestLoad_107
      · simp only [fa_lt, fa_le, fa_eq, ltv_0] at c527
        refine lv_iload hx hb dX3_bestLoad_21 (lv_at hl 0 rfl) ?_
        refine lv_iload_n hx hb dX3_bestLoad_23 rfl (lv_at hl 3 rfl) ?_
        refine lv_iconst (v := (-1)) hx hb dX3_bestLoad_24 (by decide) ?_
        refine lv_ixor hx hb dX3_bestLoad_25 ?_
        refine lv_topi (fun z528 ez528 => ?_)
        clear ez528
        refine lv_iand hx hb dX3_bestLoad_26 ?_
        refine lv_topi (fun z529 ez529 => ?_)
        clear ez529
        refine lv_if_ne (tgt := 99) hx hb dX3_bestLoad_27 (by decide) (fun c530 => ?_) (fun c530 => ?_)
        · simp only [fa_lt, fa_le, fa_eq, ltv_0] at c530
          obtain ⟨z531, ez531⟩ : ∃ y : Int32, y = z523 + 1 := ⟨_, rfl⟩
          have tz531 : z531.toInt = z523.toInt + 1 := by rw [ez531, iadd_t (by simp only [ltv_1]; omega) (by simp only [ltv_1]; omega)]; simp only [ltv_1]
          refine lv_iinc (v := z531) (lv' := [(6, .int z531), (5, .int z524), (4, .int z525), (3, .int z1), (0, .ref a0), (1, .ref a1), (2, .int k2)]) hx hb dX3_bestLoad_99 hl (k := 0) rfl (by rw [ez531]; rfl) (by decide) rfl (fun ls hl => ?_)
          refine lv_goto (tgt := 15) hx hb dX3_bestLoad_102 (by decide) ?_
          exact ih15 z531 z524 z525 H locs ls (by first | omega | (simp only [ltv_0]; omega)) (by first | omega | (simp only [ltv_0]; omega)) (by first | omega | (simp only [ltv_0]; omega)) (by first | omega | (simp only [ltv_0]; omega)) hP hD hS (lv_sub hl [0, 1, 2, 3, 4, 5, 6] rfl)
        · simp only [fa_lt, fa_le, fa_eq, ltv_0] at c530
          refine lv_iload hx hb dX3_bestLoad_30 (lv_at hl 0 rfl) ?_
          refine cl_i (wc := []) (wr := [(a3, .inl (cB28, 6, .inl f29)), (a4, .inl (cB30, 6, .inl f31)), (a6, .inl (cB34, 6, .inl f35)), (a0, .inr (4, [g7, g8, g9, g10, g11, g12, .int k13, g14, g15, g16, .ref a3, g17, g18, g19, g20, .ref a4, g21, g22])), (a1, .inr (3, [.int k23, g24, g25, .ref a5, .ref a6, g26, g27])), (a5, .inl (cB32, 6, .inl f33))]) (va_runS (As := [.int z523]) (rest := []) ⟨hx, hb, hml, hown, hts⟩ (kJ6_bitCount_0f7a4 l dC dI z523  H.size) (va_cwS 1 hts gX3_bestLoad_1 rfl rfl rfl (by decide +kernel) ⟨Nat.le_of_ble_eq_true rfl, Nat.le_of_ble_eq_true rfl⟩) (PS (hP.sub (ws' := []) [] rfl) (hK.sub (tys' := []) [] rfl) (hD.sub (ws' := []) [] (by decide) rfl) hN) rfl rfl hl.1 rfl (lv_room (Nat.le_of_ble_eq_true rfl)) dX3_bestLoad_32 ⟨Nat.le_of_ble_eq_true rfl, Nat.le_of_ble_eq_true rfl⟩) hP hD hK hS hA [] [0, 1, 2, 3, 4, 5] rfl rfl (by decide) (by decide) (fun z532 _u H locs hw hP hD hK hS => ?_)
          have b533 := hw
          have hP : va_P (dC, dI) vwCl [(a3, .inl (cB28, 6, .inl f29)), (a4, .inl (cB30, 6, .inl f31)), (a6, .inl (cB34, 6, .inl f35)), (a0, .inr (4, [g7, g8, g9, g10, g11, g12, .int k13, g14, g15, g16, .ref a3, g17, g18, g19, g20, .ref a4, g21, g22])), (a1, .inr (3, [.int k23, g24, g25, .ref a5, .ref a6, g26, g27])), (a5, .inl (cB32, 6, .inl f33))] H := hP
          have hD : va_D A [(a3, .inl (cB28, 6, .inl f29)), (a4, .inl (cB30, 6, .inl f31)), (a6, .inl (cB34, 6, .inl f35)), (a0, .inr (4, [g7, g8, g9, g10, g11, g12, .int k13, g14, g15, g16, .ref a3, g17, g18, g19, g20, .ref a4, g21, g22])), (a1, .inr (3, [.int k23, g24, g25, .ref a5, .ref a6, g26, g27])), (a5, .inl (cB32, 6, .inl f33))] := hD
          have hK : va_K (dC, dI) vwCl [(cB28, .int), (cB30, .int), (cB32, .int), (cB34, .int)] s := hK
          refine lv_iload_n hx hb dX3_bestLoad_35 rfl (lv_at hl 6 rfl) ?_
          refine lv_icmp_gt (tgt := 99) hx hb dX3_bestLoad_36 (by decide) (fun c534 => ?_) (fun c534 => ?_)
          · simp only [fa_lt, fa_le, fa_eq, ltv_0] at c534
            obtain ⟨z535, ez535⟩ : ∃ y : Int32, y = z523 + 1 := ⟨_, rfl⟩
            have tz535 : z535.toInt = z523.toInt + 1 := by rw [ez535, iadd_t (by simp only [ltv_1]; omega) (by simp only [ltv_1]; omega)]; simp only [ltv_1]
            refine lv_iinc (v := z535) (lv' := [(6, .int z535), (5, .int z524), (4, .int z525), (3, .int z1), (0, .ref a0), (1, .ref a1), (2, .int k2)]) hx hb dX3_bestLoad_99 hl (k := 0) rfl (by rw [ez535]; rfl) (by decide) rfl (fun ls hl => ?_)
            refine lv_goto (tgt := 15) hx hb dX3_bestLoad_102 (by decide) ?_
            exact ih15 z535 z524 z525 H locs ls (by first | omega | (simp only [ltv_0]; omega)) (by first | omega | (simp only [ltv_0]; omega)) (by first | omega | (simp only [ltv_0]; omega)) (by first | omega | (simp only [ltv_0]; omega)) hP hD hS (lv_sub hl [0, 1, 2, 3, 4, 5, 6] rfl)
          · simp only [fa_lt, fa_le, fa_eq, ltv_0] at c534
            refine lv_aload_n hx hb dX3_bestLoad_39 rfl (lv_at hl 4 rfl) ?_
            refine lv_aload_n hx hb dX3_bestLoad_40 rfl (lv_at hl 5 rfl) ?_
            refine lv_iload hx hb dX3_bestLoad_41 (lv_at hl 0 rfl) ?_
            refine lv_aload_n hx hb dX3_bestLoad_43 rfl (lv_at hl 5 rfl) ?_
            refine va_get (D := (dC, dI)) (ci := 3) (v := .int k23) (C := RX4) (T := TX4) (N := 7) hx hb hts iX3_bestLoad_X4 hown hK hP 4 rfl rfl 0 (by decide) (hts (.fieldLink RX3 44 "HookPier$Now" "today" "I") (List.mem_of_getElem? (i := 14) rfl)) (fun _ h9 => h9) rfl dX3_bestLoad_44 ?_
            refine cl_i (wc := [(a0, .inr (4, [g7, g8, g9, g10, g11, g12, .int k13, g14, g15, g16, .ref a3, g17, g18, g19, g20, .ref a4, g21, g22])), (a1, .inr (3, [.int k23, g24, g25, .ref a5, .ref a6, g26, g27])), (a3, .inl (cB28, 6, .inl f29)), (a4, .inl (cB30, 6, .inl f31)), (a6, .inl (cB34, 6, .inl f35))]) (wr := [(a5, .inl (cB32, 6, .inl f33))]) (va_runS (As := [.ref a0, .ref a1, .int z523, .int k23]) (rest := []) ⟨hx, hb, hml, hown, hts⟩ (kX3_worthTogether l dC dI a0 a1 z523 k23 a3 a4 a6 (g7) (g8) (g9) (g10) (g11) (g12) k13 (g14) (g15) (g16) (g17) (g18) (g19) (g20) (g21) (g22) (.int k23) (g24) (g25) (.ref a5) (g26) (g27) cB28 f29 cB30 f31 cB34 f35 (by first | omega | (simp only [ltv_0]; omega)) H.size) (va_cwS 4 hts gX3_bestLoad_2 rfl rfl rfl (by decide +kernel) ⟨Nat.le_of_ble_eq_true rfl, Nat.le_of_ble_eq_true rfl⟩) (PS (hP.sub (ws' := [(a0, .inr (4, [g7, g8, g9, g10, g11, g12, .int k13, g14, g15, g16, .ref a3, g17, g18, g19, g20, .ref a4, g21, g22])), (a1, .inr (3, [.int k23, g24, g25, .ref a5, .ref a6, g26, g27])), (a3, .inl (cB28, 6, .inl f29)), (a4, .inl (cB30, 6, .inl f31)), (a6, .inl (cB34, 6, .inl f35))]) [3, 4, 0, 1, 2] rfl) (hK.sub (tys' := [(cB28, .int), (cB30, .int), (cB34, .int)]) [0, 1, 3] rfl) (hD.sub (ws' := [(a0, .inr (4, [g7, g8, g9, g10, g11, g12, .int k13, g14, g15, g16, .ref a3, g17, g18, g19, g20, .ref a4, g21, g22])), (a1, .inr (3, [.int k23, g24, g25, .ref a5, .ref a6, g26, g27])), (a3, .inl (cB28, 6, .inl f29)), (a4, .inl (cB30, 6, .inl f31)), (a6, .inl (cB34, 6, .inl f35))]) [3, 4, 0, 1, 2] (by decide) rfl) hN) rfl rfl hl.1 rfl (lv_room (Nat.le_of_ble_eq_true rfl)) dX3_bestLoad_47 ⟨Nat.le_of_ble_eq_true rfl, Nat.le_of_ble_eq_true rfl⟩) hP hD hK hS hA [3, 4, 0, 1, 2] [5] rfl rfl (by decide) (by decide) (fun z536 _u H locs hw hP hD hK hS => ?_)
            have b537 := hw
            have hP : va_P (dC, dI) vwCl [(a5, .inl (cB32, 6, .inl f33)), (a0, .inr (4, [g7, g8, g9, g10, g11, g12, .int k13, g14, g15, g16, .ref a3, g17, g18, g19, g20, .ref a4, g21, g22])), (a1, .inr (3, [.int k23, g24, g25, .ref a5, .ref a6, g26, g27])), (a3, .inl (cB28, 6, .inl f29)), (a4, .inl (cB30, 6, .inl f31)), (a6, .inl (cB34, 6, .inl f35))] H := hP
            have hD : va_D A [(a5, .inl (cB32, 6, .inl f33)), (a0, .inr (4, [g7, g8, g9, g10, g11, g12, .int k13, g14, g15, g16, .ref a3, g17, g18, g19, g20, .ref a4, g21, g22])), (a1, .inr (3, [.int k23, g24, g25, .ref a5, .ref a6, g26, g27])), (a3, .inl (cB28, 6, .inl f29)), (a4, .inl (cB30, 6, .inl f31)), (a6, .inl (cB34, 6, .inl f35))] := hD
            have hK : va_K (dC, dI) vwCl [(cB28, .int), (cB30, .int), (cB32, .int), (cB34, .int)] s := hK
            refine lv_istore (lv' := [(7, .int z536), (6, .int z523), (5, .int z524), (4, .int z525), (3, .int z1), (0, .ref a0), (1, .ref a1), (2, .int k2)]) hx hb dX3_bestLoad_50 hl (by decide) rfl (fun ls hl => ?_)
            refine lv_iload hx hb dX3_bestLoad_52 (lv_at hl 1 rfl) ?_
            refine cl_i (wc := []) (wr := [(a5, .inl (cB32, 6, .inl f33)), (a0, .inr (4, [g7, g8, g9, g10, g11, g12, .int k13, g14, g15, g16, .ref a3, g17, g18, g19, g20, .ref a4, g21, g22])), (a1, .inr (3, [.int k23, g24, g25, .ref a5, .ref a6, g26, g27])), (a3, .inl (cB28, 6, .inl f29)), (a4, .inl (cB30, 6, .inl f31)), (a6, .inl (cB34, 6, .inl f35))]) (va_runS (As := [.int z523]) (rest := []) ⟨hx, hb, hml, hown, hts⟩ (kJ6_bitCount_0f7a4 l dC dI z523  H.size) (va_cwS 1 hts gX3_bestLoad_1 rfl rfl rfl (by decide +kernel) ⟨Nat.le_of_ble_eq_true rfl, Nat.le_of_ble_eq_true rfl⟩) (PS (hP.sub (ws' := []) [] rfl) (hK.sub (tys' := []) [] rfl) (hD.sub (ws' := []) [] (by decide) rfl) hN) rfl rfl hl.1 rfl (lv_room (Nat.le_of_ble_eq_true rfl)) dX3_bestLoad_54 ⟨Nat.le_of_ble_eq_true rfl, Nat.le_of_ble_eq_true rfl⟩) hP hD hK hS hA [] [0, 1, 2, 3, 4, 5] rfl rfl (by decide) (by decide) (fun z538 _u H locs hw hP hD hK hS => ?_)
            have b539 := hw
            have hP : va_P (dC, dI) vwCl [(a5, .inl (cB32, 6, .inl f33)), (a0, .inr (4, [g7, g8, g9, g10, g11, g12, .int k13, g14, g15, g16, .ref a3, g17, g18, g19, g20, .ref a4, g21, g22])), (a1, .inr (3, [.int k23, g24, g25, .ref a5, .ref a6, g26, g27])), (a3, .inl (cB28, 6, .inl f29)), (a4, .inl (cB30, 6, .inl f31)), (a6, .inl (cB34, 6, .inl f35))] H := hP
            have hD : va_D A [(a5, .inl (cB32, 6, .inl f33)), (a0, .inr (4, [g7, g8, g9, g10, g11, g12, .int k13, g14, g15, g16, .ref a3, g17, g18, g19, g20, .ref a4, g21, g22])), (a1, .inr (3, [.int k23, g24, g25, .ref a5, .ref a6, g26, g27])), (a3, .inl (cB28, 6, .inl f29)), (a4, .inl (cB30, 6, .inl f31)), (a6, .inl (cB34, 6, .inl f35))] := hD
            have hK : va_K (dC, dI) vwCl [(cB28, .int), (cB30, .int), (cB32, .int), (cB34, .int)] s := hK
            refine lv_iload hx hb dX3_bestLoad_57 (lv_at hl 3 rfl) ?_
            refine cl_i (wc := []) (wr := [(a5, .inl (cB32, 6, .inl f33)), (a0, .inr (4, [g7, g8, g9, g10, g11, g12, .int k13, g14, g15, g16, .ref a3, g17, g18, g19, g20, .ref a4, g21, g22])), (a1, .inr (3, [.int k23, g24, g25, .ref a5, .ref a6, g26, g27])), (a3, .inl (cB28, 6, .inl f29)), (a4, .inl (cB30, 6, .inl f31)), (a6, .inl (cB34, 6, .inl f35))]) (va_runS (As := [.int z525]) (rest := [.int z538]) ⟨hx, hb, hml, hown, hts⟩ (kJ6_bitCount_0f7a4 l dC dI z525  H.size) (va_cwS 1 hts gX3_bestLoad_1 rfl rfl rfl (by decide +kernel) ⟨Nat.le_of_ble_eq_true rfl, Nat.le_of_ble_eq_true rfl⟩) (PS (hP.sub (ws' := []) [] rfl) (hK.sub (tys' := []) [] rfl) (hD.sub (ws' := []) [] (by decide) rfl) hN) rfl rfl hl.1 rfl (lv_room (Nat.le_of_ble_eq_true rfl)) dX3_bestLoad_59 ⟨Nat.le_of_ble_eq_true rfl, Nat.le_of_ble_eq_true rfl⟩) hP hD hK hS hA [] [0, 1, 2, 3, 4, 5] rfl rfl (by decide) (by decide) (fun z540 _u H locs hw hP hD hK hS => ?_)
            have b541 := hw
            have hP : va_P (dC, dI) vwCl [(a5, .inl (cB32, 6, .inl f33)), (a0, .inr (4, [g7, g8, g9, g10, g11, g12, .int k13, g14, g15, g16, .ref a3, g17, g18, g19, g20, .ref a4, g21, g22])), (a1, .inr (3, [.int k23, g24, g25, .ref a5, .ref a6, g26, g27])), (a3, .inl (cB28, 6, .inl f29)), (a4, .inl (cB30, 6, .inl f31)), (a6, .inl (cB34, 6, .inl f35))] H := hP
            have hD : va_D A [(a5, .inl (cB32, 6, .inl f33)), (a0, .inr (4, [g7, g8, g9, g10, g11, g12, .int k13, g14, g15, g16, .ref a3, g17, g18, g19, g20, .ref a4, g21, g22])), (a1, .inr (3, [.int k23, g24, g25, .ref a5, .ref a6, g26, g27])), (a3, .inl (cB28, 6, .inl f29)), (a4, .inl (cB30, 6, .inl f31)), (a6, .inl (cB34, 6, .inl f35))] := hD
            have hK : va_K (dC, dI) vwCl [(cB28, .int), (cB30, .int), (cB32, .int), (cB34, .int)] s := hK
            refine lv_icmp_ge (tgt := 69) hx hb dX3_bestLoad_62 (by decide) (fun c542 => ?_) (fun c542 => ?_)
            · simp only [fa_lt, fa_le, fa_eq, ltv_0] at c542
              refine lv_iconst (v := 0) hx hb dX3_bestLoad_69 (by decide) ?_
              refine lv_istore (lv' := [(8, .int 0), (7, .int z536), (6, .int z523), (5, .int z524), (4, .int z525), (3, .int z1), (0, .ref a0), (1, .ref a1), (2, .int k2)]) hx hb dX3_bestLoad_70 hl (by decide) rfl (fun ls hl => ?_)
              refine lv_iload hx hb dX3_bestLoad_72 (lv_at hl 1 rfl) ?_
              refine lv_iload hx hb dX3_bestLoad_74 (lv_at hl 3 rfl) ?_
              refine lv_icmp_gt (tgt := 91) hx hb dX3_bestLoad_76 (by decide) (fun c543 => ?_) (fun c543 => ?_)
              · simp only [fa_lt, fa_le, fa_eq, ltv_0] at c543
                refine lv_iload hx hb dX3_bestLoad_91 (lv_at hl 1 rfl) ?_
                refine lv_istore (lv' := [(5, .int z536), (8, .int 0), (7, .int z536), (6, .int z523), (4, .int z525), (3, .int z1), (0, .ref a0), (1, .ref a1), (2, .int k2)]) hx hb dX3_bestLoad_93 hl (by decide) rfl (fun ls hl => ?_)
                refine lv_iload hx hb dX3_bestLoad_95 (lv_at hl 3 rfl) ?_
                refine lv_istore (lv' := [(4, .int z523), (5, .int z536), (8, .int 0), (7, .int z536), (6, .int z523), (3, .int z1), (0, .ref a0), (1, .ref a1), (2, .int k2)]) hx hb dX3_bestLoad_97 hl (by decide) rfl (fun ls hl => ?_)
                obtain ⟨z544, ez544⟩ : ∃ y : Int32, y = z523 + 1 := ⟨_, rfl⟩
                have tz544 : z544.toInt = z523.toInt + 1 := by rw [ez544, iadd_t (by simp only [ltv_1]; omega) (by simp only [ltv_1]; omega)]; simp only [ltv_1]
                refine lv_iinc (v := z544) (lv' := [(6, .int z544), (4, .int z523), (5, .int z536), (8, .int 0), (7, .int z536), (3, .int z1), (0, .ref a0), (1, .ref a1), (2, .int k2)]) hx hb dX3_bestLoad_99 hl (k := 4) rfl (by rw [ez544]; rfl) (by decide) rfl (fun ls hl => ?_)
                refine lv_goto (tgt := 15) hx hb dX3_bestLoad_102 (by decide) ?_
                exact ih15 z544 z536 z523 H locs ls (by first | omega | (simp only [ltv_0]; omega)) (by first | omega | (simp only [ltv_0]; omega)) (by first | omega | (simp only [ltv_0]; omega)) (by first | omega | (simp only [ltv_0]; omega)) (hP.sub (ws' := [(a3, .inl (cB28, 6, .inl f29)), (a4, .inl (cB30, 6, .inl f31)), (a6, .inl (cB34, 6, .inl f35)), (a0, .inr (4, [g7, g8, g9, g10, g11, g12, .int k13, g14, g15, g16, .ref a3, g17, g18, g19, g20, .ref a4, g21, g22])), (a1, .inr (3, [.int k23, g24, g25, .ref a5, .ref a6, g26, g27])), (a5, .inl (cB32, 6, .inl f33))]) [3, 4, 5, 1, 2, 0] rfl) (hD.sub (ws' := [(a3, .inl (cB28, 6, .inl f29)), (a4, .inl (cB30, 6, .inl f31)), (a6, .inl (cB34, 6, .inl f35)), (a0, .inr (4, [g7, g8, g9, g10, g11, g12, .int k13, g14, g15, g16, .ref a3, g17, g18, g19, g20, .ref a4, g21, g22])), (a1, .inr (3, [.int k23, g24, g25, .ref a5, .ref a6, g26, g27])), (a5, .inl (cB32, 6, .inl f33))]) [3, 4, 5, 1, 2, 0] (by decide) rfl) hS (lv_sub hl [0, 2, 1, 5, 6, 7, 8] rfl)
              · simp only [fa_lt, fa_le, fa_eq, ltv_0] at c543
                refine lv_iload hx hb dX3_bestLoad_79 (lv_at hl 1 rfl) ?_
                refine lv_iload hx hb dX3_bestLoad_81 (lv_at hl 3 rfl) ?_
                refine lv_icmp_ne (tgt := 99) hx hb dX3_bestLoad_83 (by decide) (fun c545 => ?_) (fun c545 => ?_)
                · simp only [fa_lt, fa_le, fa_eq, ltv_0] at c545
                  obtain ⟨z546, ez546⟩ : ∃ y : Int32, y = z523 + 1 := ⟨_, rfl⟩
                  have tz546 : z546.toInt = z523.toInt + 1 := by rw [ez546, iadd_t (by simp only [ltv_1]; omega) (by simp only [ltv_1]; omega)]; simp only [ltv_1]
                  refine lv_iinc (v := z546) (lv' := [(6, .int z546), (8, .int 0), (7, .int z536), (5, .int z524), (4, .int z525), (3, .int z1), (0, .ref a0), (1, .ref a1), (2, .int k2)]) hx hb dX3_bestLoad_99 hl (k := 2) rfl (by rw [ez546]; rfl) (by decide) rfl (fun ls hl => ?_)
                  refine lv_goto (tgt := 15) hx hb dX3_bestLoad_102 (by decide) ?_
                  exact ih15 z546 z524 z525 H locs ls (by first | omega | (simp only [ltv_0]; omega)) (by first | omega | (simp only [ltv_0]; omega)) (by first | omega | (simp only [ltv_0]; omega)) (by first | omega | (simp only [ltv_0]; omega)) (hP.sub (ws' := [(a3, .inl (cB28, 6, .inl f29)), (a4, .inl (cB30, 6, .inl f31)), (a6, .inl (cB34, 6, .inl f35)), (a0, .inr (4, [g7, g8, g9, g10, g11, g12, .int k13, g14, g15, g16, .ref a3, g17, g18, g19, g20, .ref a4, g21, g22])), (a1, .inr (3, [.int k23, g24, g25, .ref a5, .ref a6, g26, g27])), (a5, .inl (cB32, 6, .inl f33))]) [3, 4, 5, 1, 2, 0] rfl) (hD.sub (ws' := [(a3, .inl (cB28, 6, .inl f29)), (a4, .inl (cB30, 6, .inl f31)), (a6, .inl (cB34, 6, .inl f35)), (a0, .inr (4, [g7, g8, g9, g10, g11, g12, .int k13, g14, g15, g16, .ref a3, g17, g18, g19, g20, .ref a4, g21, g22])), (a1, .inr (3, [.int k23, g24, g25, .ref a5, .ref a6, g26, g27])), (a5, .inl (cB32, 6, .inl f33))]) [3, 4, 5, 1, 2, 0] (by decide) rfl) hS (lv_sub hl [0, 3, 4, 5, 6, 7, 8] rfl)
                · simp only [fa_lt, fa_le, fa_eq, ltv_0] at c545
                  refine lv_iload hx hb dX3_bestLoad_86 (lv_at hl 0 rfl) ?_
                  refine lv_if_eq (tgt := 99) hx hb dX3_bestLoad_88 (by decide) (fun _ => ?_) (fun c547 => absurd c547 (by decide))
                  obtain ⟨z548, ez548⟩ : ∃ y : Int32, y = z523 + 1 := ⟨_, rfl⟩
                  have tz548 : z548.toInt = z523.toInt + 1 := by rw [ez548, iadd_t (by simp only [ltv_1]; omega) (by simp only [ltv_1]; omega)]; simp only [ltv_1]
                  refine lv_iinc (v := z548) (lv' := [(6, .int z548), (8, .int 0), (7, .int z536), (5, .int z524), (4, .int z525), (3, .int z1), (0, .ref a0), (1, .ref a1), (2, .int k2)]) hx hb dX3_bestLoad_99 hl (k := 2) rfl (by rw [ez548]; rfl) (by decide) rfl (fun ls hl => ?_)
                  refine lv_goto (tgt := 15) hx hb dX3_bestLoad_102 (by decide) ?_
                  exact ih15 z548 z524 z525 H locs ls (by first | omega | (simp only [ltv_0]; omega)) (by first | omega | (simp only [ltv_0]; omega)) (by first | omega | (simp only [ltv_0]; omega)) (by first | omega | (simp only [ltv_0]; omega)) (hP.sub (ws' := [(a3, .inl (cB28, 6, .inl f29)), (a4, .inl (cB30, 6, .inl f31)), (a6, .inl (cB34, 6, .inl f35)), (a0, .inr (4, [g7, g8, g9, g10, g11, g12, .int k13, g14, g15, g16, .ref a3, g17, g18, g19, g20, .ref a4, g21, g22])), (a1, .inr (3, [.int k23, g24, g25, .ref a5, .ref a6, g26, g27])), (a5, .inl (cB32, 6, .inl f33))]) [3, 4, 5, 1, 2, 0] rfl) (hD.sub (ws' := [(a3, .inl (cB28, 6, .inl f29)), (a4, .inl (cB30, 6, .inl f31)), (a6, .inl (cB34, 6, .inl f35)), (a0, .inr (4, [g7, g8, g9, g10, g11, g12, .int k13, g14, g15, g16, .ref a3, g17, g18, g19, g20, .ref a4, g21, g22])), (a1, .inr (3, [.int k23, g24, g25, .ref a5, .ref a6, g26, g27])), (a5, .inl (cB32, 6, .inl f33))]) [3, 4, 5, 1, 2, 0] (by decide) rfl) hS (lv_sub hl [0, 3, 4, 5, 6, 7, 8] rfl)
            · simp only [fa_lt, fa_le, fa_eq, ltv_0] at c542
              refine lv_iconst (v := 1) hx hb dX3_bestLoad_65 (by decide) ?_
              refine lv_goto (tgt := 70) hx hb dX3_bestLoad_66 (by decide) ?_
              refine lv_istore (lv' := [(8, .int 1), (7, .int z536), (6, .int z523), (5, .int z524), (4, .int z525), (3, .int z1), (0, .ref a0), (1, .ref a1), (2, .int k2)]) hx hb dX3_bestLoad_70 hl (by decide) rfl (fun ls hl => ?_)
              refine lv_iload hx hb dX3_bestLoad_72 (lv_at hl 1 rfl) ?_
              refine lv_iload hx hb dX3_bestLoad_74 (lv_at hl 3 rfl) ?_
              refine lv_icmp_gt (tgt := 91) hx hb dX3_bestLoad_76 (by decide) (fun c549 => ?_) (fun c549 => ?_)
              · simp only [fa_lt, fa_le, fa_eq, ltv_0] at c549
                refine lv_iload hx hb dX3_bestLoad_91 (lv_at hl 1 rfl) ?_
                refine lv_istore (lv' := [(5, .int z536), (8, .int 1), (7, .int z536), (6, .int z523), (4, .int z525), (3, .int z1), (0, .ref a0), (1, .ref a1), (2, .int k2)]) hx hb dX3_bestLoad_93 hl (by decide) rfl (fun ls hl => ?_)
                refine lv_iload hx hb dX3_bestLoad_95 (lv_at hl 3 rfl) ?_
                refine lv_istore (lv' := [(4, .int z523), (5, .int z536), (8, .int 1), (7, .int z536), (6, .int z523), (3, .int z1), (0, .ref a0), (1, .ref a1), (2, .int k2)]) hx hb dX3_bestLoad_97 hl (by decide) rfl (fun ls hl => ?_)
                obtain ⟨z550, ez550⟩ : ∃ y : Int32, y = z523 + 1 := ⟨_, rfl⟩
                have tz550 : z550.toInt = z523.toInt + 1 := by rw [ez550, iadd_t (by simp only [ltv_1]; omega) (by simp only [ltv_1]; omega)]; simp only [ltv_1]
                refine lv_iinc (v := z550) (lv' := [(6, .int z550), (4, .int z523), (5, .int z536), (8, .int 1), (7, .int z536), (3, .int z1), (0, .ref a0), (1, .ref a1), (2, .int k2)]) hx hb dX3_bestLoad_99 hl (k := 4) rfl (by rw [ez550]; rfl) (by decide) rfl (fun ls hl => ?_)
                refine lv_goto (tgt := 15) hx hb dX3_bestLoad_102 (by decide) ?_
                exact ih15 z550 z536 z523 H locs ls (by first | omega | (simp only [ltv_0, ltv_1]; omega)) (by first | omega | (simp only [ltv_0, ltv_1]; omega)) (by first | omega | (simp only [ltv_0, ltv_1]; omega)) (by first | omega | (simp only [ltv_0, ltv_1]; omega)) (hP.sub (ws' := [(a3, .inl (cB28, 6, .inl f29)), (a4, .inl (cB30, 6, .inl f31)), (a6, .inl (cB34, 6, .inl f35)), (a0, .inr (4, [g7, g8, g9, g10, g11, g12, .int k13, g14, g15, g16, .ref a3, g17, g18, g19, g20, .ref a4, g21, g22])), (a1, .inr (3, [.int k23, g24, g25, .ref a5, .ref a6, g26, g27])), (a5, .inl (cB32, 6, .inl f33))]) [3, 4, 5, 1, 2, 0] rfl) (hD.sub (ws' := [(a3, .inl (cB28, 6, .inl f29)), (a4, .inl (cB30, 6, .inl f31)), (a6, .inl (cB34, 6, .inl f35)), (a0, .inr (4, [g7, g8, g9, g10, g11, g12, .int k13, g14, g15, g16, .ref a3, g17, g18, g19, g20, .ref a4, g21, g22])), (a1, .inr (3, [.int k23, g24, g25, .ref a5, .ref a6, g26, g27])), (a5, .inl (cB32, 6, .inl f33))]) [3, 4, 5, 1, 2, 0] (by decide) rfl) hS (lv_sub hl [0, 2, 1, 5, 6, 7, 8] rfl)
              · simp only [fa_lt, fa_le, fa_eq, ltv_0] at c549
                refine lv_iload hx hb dX3_bestLoad_79 (lv_at hl 1 rfl) ?_
                refine lv_iload hx hb dX3_bestLoad_81 (lv_at hl 3 rfl) ?_
                refine lv_icmp_ne (tgt := 99) hx hb dX3_bestLoad_83 (by decide) (fun c551 => ?_) (fun c551 => ?_)
                · simp only [fa_lt, fa_le, fa_eq, ltv_0] at c551
                  obtain ⟨z552, ez552⟩ : ∃ y : Int32, y = z523 + 1 := ⟨_, rfl⟩
                  have tz552 : z552.toInt = z523.toInt + 1 := by rw [ez552, iadd_t (by simp only [ltv_1]; omega) (by simp only [ltv_1]; omega)]; simp only [ltv_1]
                  refine lv_iinc (v := z552) (lv' := [(6, .int z552), (8, .int 1), (7, .int z536), (5, .int z524), (4, .int z525), (3, .int z1), (0, .ref a0), (1, .ref a1), (2, .int k2)]) hx hb dX3_bestLoad_99 hl (k := 2) rfl (by rw [ez552]; rfl) (by decide) rfl (fun ls hl => ?_)
                  refine lv_goto (tgt := 15) hx hb dX3_bestLoad_102 (by decide) ?_
                  exact ih15 z552 z524 z525 H locs ls (by first | omega | (simp only [ltv_0, ltv_1]; omega)) (by first | omega | (simp only [ltv_0, ltv_1]; omega)) (by first | omega | (simp only [ltv_0, ltv_1]; omega)) (by first | omega | (simp only [ltv_0, ltv_1]; omega)) (hP.sub (ws' := [(a3, .inl (cB28, 6, .inl f29)), (a4, .inl (cB30, 6, .inl f31)), (a6, .inl (cB34, 6, .inl f35)), (a0, .inr (4, [g7, g8, g9, g10, g11, g12, .int k13, g14, g15, g16, .ref a3, g17, g18, g19, g20, .ref a4, g21, g22])), (a1, .inr (3, [.int k23, g24, g25, .ref a5, .ref a6, g26, g27])), (a5, .inl (cB32, 6, .inl f33))]) [3, 4, 5, 1, 2, 0] rfl) (hD.sub (ws' := [(a3, .inl (cB28, 6, .inl f29)), (a4, .inl (cB30, 6, .inl f31)), (a6, .inl (cB34, 6, .inl f35)), (a0, .inr (4, [g7, g8, g9, g10, g11, g12, .int k13, g14, g15, g16, .ref a3, g17, g18, g19, g20, .ref a4, g21, g22])), (a1, .inr (3, [.int k23, g24, g25, .ref a5, .ref a6, g26, g27])), (a5, .inl (cB32, 6, .inl f33))]) [3, 4, 5, 1, 2, 0] (by decide) rfl) hS (lv_sub hl [0, 3, 4, 5, 6, 7, 8] rfl)
                · simp only [fa_lt, fa_le, fa_eq, ltv_0] at c551
                  refine lv_iload hx hb dX3_bestLoad_86 (lv_at hl 0 rfl) ?_
                  refine lv_if_eq (tgt := 99) hx hb dX3_bestLoad_88 (by decide) (fun c553 => absurd c553 (by decide)) (fun _ => ?_)
                  refine lv_iload hx hb dX3_bestLoad_91 (lv_at hl 1 rfl) ?_
                  refine lv_istore (lv' := [(5, .int z536), (8, .int 1), (7, .int z536), (6, .int z523), (4, .int z525), (3, .int z1), (0, .ref a0), (1, .ref a1), (2, .int k2)]) hx hb dX3_bestLoad_93 hl (by decide) rfl (fun ls hl => ?_)
                  refine lv_iload hx hb dX3_bestLoad_95 (lv_at hl 3 rfl) ?_
                  refine lv_istore (lv' := [(4, .int z523), (5, .int z536), (8, .int 1), (7, .int z536), (6, .int z523), (3, .int z1), (0, .ref a0), (1, .ref a1), (2, .int k2)]) hx hb dX3_bestLoad_97 hl (by decide) rfl (fun ls hl => ?_)
                  obtain ⟨z554, ez554⟩ : ∃ y : Int32, y = z523 + 1 := ⟨_, rfl⟩
                  have tz554 : z554.toInt = z523.toInt + 1 := by rw [ez554, iadd_t (by simp only [ltv_1]; omega) (by simp only [ltv_1]; omega)]; simp only [ltv_1]
                  refine lv_iinc (v := z554) (lv' := [(6, .int z554), (4, .int z523), (5, .int z536), (8, .int 1), (7, .int z536), (3, .int z1), (0, .ref a0), (1, .ref a1), (2, .int k2)]) hx hb dX3_bestLoad_99 hl (k := 4) rfl (by rw [ez554]; rfl) (by decide) rfl (fun ls hl => ?_)
                  refine lv_goto (tgt := 15) hx hb dX3_bestLoad_102 (by decide) ?_
                  exact ih15 z554 z536 z523 H locs ls (by first | omega | (simp only [ltv_0, ltv_1]; omega)) (by first | omega | (simp only [ltv_0, ltv_1]; omega)) (by first | omega | (simp only [ltv_0, ltv_1]; omega)) (by first | omega | (simp only [ltv_0, ltv_1]; omega)) (hP.sub (ws' := [(a3, .inl (cB28, 6, .inl f29)), (a4, .inl (cB30, 6, .inl f31)), (a6, .inl (cB34, 6, .inl f35)), (a0, .inr (4, [g7, g8, g9, g10, g11, g12, .int k13, g14, g15, g16, .ref a3, g17, g18, g19, g20, .ref a4, g21, g22])), (a1, .inr (3, [.int k23, g24, g25, .ref a5, .ref a6, g26, g27])), (a5, .inl (cB32, 6, .inl f33))]) [3, 4, 5, 1, 2, 0] rfl) (hD.sub (ws' := [(a3, .inl (cB28, 6, .inl f29)), (a4, .inl (cB30, 6, .inl f31)), (a6, .inl (cB34, 6, .inl f35)), (a0, .inr (4, [g7, g8, g9, g10, g11, g12, .int k13, g14, g15, g16, .ref a3, g17, g18, g19, g20, .ref a4, g21, g22])), (a1, .inr (3, [.int k23, g24, g25, .ref a5, .ref a6, g26, g27])), (a5, .inl (cB32, 6, .inl f33))]) [3, 4, 5, 1, 2, 0] (by decide) rfl) hS (lv_sub hl [0, 2, 1, 5, 6, 7, 8] rfl)
  exact L15_526 64 (1) (0) (0) H _ ls (by first | omega | (simp only [ltv_0, ltv_1]; omega)) (by first | omega | (simp only [ltv_0, ltv_1]; omega)) (by first | omega | (simp only [ltv_0, ltv_1]; omega)) (by first | omega | (simp only [ltv_0, ltv_1]; omega)) hP hD hS (lv_sub hl [0, 1, 2, 3, 4, 5, 6] rfl)
theorem dX0_wouldBite_0 : decode cX0_wouldBite 0 = .ok (.iload_n 0, 1) := by decide +kernel
theorem dX0_wouldBite_1 : decode cX0_wouldBite 1 = .ok (.iload_n 1, 1) := by decide +kernel
theorem dX0_wouldBite_12 : decode cX0_wouldBite 12 = .ok (.bipush 20, 2) := by decide +kernel
theorem dX0_wouldBite_14 : decode cX0_wouldBite 14 = .ok (.goto 4, 3) := by decide +kernel
theorem dX0_wouldBite_17 : decode cX0_wouldBite 17 = .ok (.iconst 0, 1) := by decide +kernel
theorem dX0_wouldBite_18 : decode cX0_wouldBite 18 = .ok (.iadd, 1) := by decide +kernel
theorem dX0_wouldBite_19 : decode cX0_wouldBite 19 = .ok (.bipush 10, 2) := by decide +kernel
theorem dX0_wouldBite_2 : decode cX0_wouldBite 2 = .ok (.invokestatic 60, 3) := by decide +kernel
theorem dX0_wouldBite_21 : decode cX0_wouldBite 21 = .ok (.iload_n 1, 1) := by decide +kernel
theorem dX0_wouldBite_22 : decode cX0_wouldBite 22 = .ok (.invokestatic 64, 3) := by decide +kernel
theorem dX0_wouldBite_25 : decode cX0_wouldBite 25 = .ok (.iload_n 2, 1) := by decide +kernel
theorem dX0_wouldBite_26 : decode cX0_wouldBite 26 = .ok (.invokestatic 64, 3) := by decide +kernel
theorem dX0_wouldBite_29 : decode cX0_wouldBite 29 = .ok (.isub, 1) := by decide +kernel
theorem dX0_wouldBite_30 : decode cX0_wouldBite 30 = .ok (.invokestatic 67, 3) := by decide +kernel
theorem dX0_wouldBite_33 : decode cX0_wouldBite 33 = .ok (.imul, 1) := by decide +kernel
theorem dX0_wouldBite_34 : decode cX0_wouldBite 34 = .ok (.isub, 1) := by decide +kernel
theorem dX0_wouldBite_35 : decode cX0_wouldBite 35 = .ok (.bipush 8, 2) := by decide +kernel
theorem dX0_wouldBite_37 : decode cX0_wouldBite 37 = .ok (.iload_n 1, 1) := by decide +kernel
theorem dX0_wouldBite_38 : decode cX0_wouldBite 38 = .ok (.invokestatic 70, 3) := by decide +kernel
theorem dX0_wouldBite_41 : decode cX0_wouldBite 41 = .ok (.iload_n 2, 1) := by decide +kernel
theorem dX0_wouldBite_42 : decode cX0_wouldBite 42 = .ok (.invokestatic 70, 3) := by decide +kernel
theorem dX0_wouldBite_45 : decode cX0_wouldBite 45 = .ok (.isub, 1) := by decide +kernel
theorem dX0_wouldBite_46 : decode cX0_wouldBite 46 = .ok (.invokestatic 67, 3) := by decide +kernel
theorem dX0_wouldBite_49 : decode cX0_wouldBite 49 = .ok (.imul, 1) := by decide +kernel
theorem dX0_wouldBite_5 : decode cX0_wouldBite 5 = .ok (.iload_n 2, 1) := by decide +kernel
theorem dX0_wouldBite_50 : decode cX0_wouldBite 50 = .ok (.isub, 1) := by decide +kernel
theorem dX0_wouldBite_51 : decode cX0_wouldBite 51 = .ok (.istore_n 3, 1) := by decide +kernel
theorem dX0_wouldBite_52 : decode cX0_wouldBite 52 = .ok (.iload_n 3, 1) := by decide +kernel
theorem dX0_wouldBite_53 : decode cX0_wouldBite 53 = .ok (.bipush 50, 2) := by decide +kernel
theorem dX0_wouldBite_55 : decode cX0_wouldBite 55 = .ok (.if_icmp .lt 7, 3) := by decide +kernel
theorem dX0_wouldBite_58 : decode cX0_wouldBite 58 = .ok (.iconst 1, 1) := by decide +kernel
theorem dX0_wouldBite_59 : decode cX0_wouldBite 59 = .ok (.goto 4, 3) := by decide +kernel
theorem dX0_wouldBite_6 : decode cX0_wouldBite 6 = .ok (.invokestatic 60, 3) := by decide +kernel
theorem dX0_wouldBite_62 : decode cX0_wouldBite 62 = .ok (.iconst 0, 1) := by decide +kernel
theorem dX0_wouldBite_63 : decode cX0_wouldBite 63 = .ok (.ireturn, 1) := by decide +kernel
theorem dX0_wouldBite_9 : decode cX0_wouldBite 9 = .ok (.if_icmp .ne 8, 3) := by decide +kernel
def vX0_wouldBite : List Cond := .code yX0_wouldBite cX0_wouldBite 4 (some .boolean) :: ([.code yX10_baitOf cX10_baitOf 1 (some .int), .initialized RX10, .static yX10_baitOf, .code yX10_spotOf cX10_spotOf 1 (some .int), .static yX10_spotOf, .methodLink RX0 67 Lib.Math.abs.name, .static Lib.Math.abs.name, .initialized "java/lang/Math", .code Lib.Math.abs.name Lib.Math.abs.code 1 (some .int), .code yX10_fathomsOf cX10_fathomsOf 1 (some .int), .static yX10_fathomsOf])
set_option maxRecDepth 20000 in
theorem gX0_wouldBite_0 : GoodIn vX0_wouldBite vX10_baitOf := (goodIn_r (.code yX10_baitOf cX10_baitOf 1 (some .int) :: []) [1] (by decide +kernel) (by decide +kernel) : GoodIn vX0_wouldBite (.code yX10_baitOf cX10_baitOf 1 (some .int) :: []))
set_option maxRecDepth 20000 in
theorem gX0_wouldBite_1 : GoodIn vX0_wouldBite vX10_spotOf := (goodIn_r (.code yX10_spotOf cX10_spotOf 1 (some .int) :: []) [4] (by decide +kernel) (by decide +kernel) : GoodIn vX0_wouldBite (.code yX10_spotOf cX10_spotOf 1 (some .int) :: []))
set_option maxRecDepth 20000 in
theorem gX0_wouldBite_2 : GoodIn vX0_wouldBite vX10_fathomsOf := (goodIn_r (.code yX10_fathomsOf cX10_fathomsOf 1 (some .int) :: []) [10] (by decide +kernel) (by decide +kernel) : GoodIn vX0_wouldBite (.code yX10_fathomsOf cX10_fathomsOf 1 (some .int) :: []))
set_option maxHeartbeats 2000000 in
set_option maxRecDepth 100000 in
theorem kX0_wouldBite (l : Launch) (dC : Nat → ClassId) (dI : Nat → Nat → Nat) (k0 : Int32) (k1 : Int32) (k2 : Int32) (sz : Nat) : Met l yX0_wouldBite vX0_wouldBite ({ frames := 1, cells := 0, slots := 0, locals := 21 }) (PC (dC, dI) [.int k0, .int k1, .int k2] sz [] []) (va_Qi (S := Unit) (fun (r : Int32) _ => (0 ≤ r.toInt ∧ r.toInt ≤ 1)) (fun _ t => BC (dC, dI) (va_A [] sz) [] [] t) (va_A [] sz)) 0 0 (va_A [] sz) := by
  refine Met.ofW (cc := cX0_wouldBite) (maxL := 4) (ret := (some .boolean)) (by decide) rfl ?_
  intro p e s m args below meth c s₁ B hml hv
  obtain ⟨rfl, hsz, hP, hK, hD0, hN⟩ := hv
  have hx := B.exec
  have hb := B.bytes
  have hr := B.returns
  have hts := atoms_spec (ws := vX0_wouldBite) B.pre
  have hown : s.vm.findClass RX0 = some m.cls := findClass_of_methodNamed B.named
  have hlocks := B.notSynchronized
  subst hsz
  have hD := hD0.self (sz := s.heap.size)
  generalize hAe : va_A [] s.heap.size = A at hD ⊢
  have hA : ∀ q : Nat, s.heap.size ≤ q → A q := fun q h => by rw [← hAe]; exact Or.inr h
  have hS : va_S A s.heap s.heap [] := va_S.rf
  have hP : va_P (dC, dI) vwCl [] s.heap := hP
  have hl := lv_entry ([.int k0, .int k1, .int k2]) (n := 4) (Nat.le_of_ble_eq_true rfl)
  rw [lg_entry_eq]
  generalize (lg_sl ([.int k0, .int k1, .int k2]) ++ List.replicate (4 - (lg_sl ([.int k0, .int k1, .int k2])).length) Slot.unset).toArray = ls at hl ⊢
  have hl : lv_has ls 4 [(0, .int k0), (1, .int k1), (2, .int k2)] := hl
  refine lv_iload_n hx hb dX0_wouldBite_0 rfl (lv_at hl 0 rfl) ?_
  refine lv_iload_n hx hb dX0_wouldBite_1 rfl (lv_at hl 1 rfl) ?_
  refine cl_i (wc := []) (wr := []) (va_runSN (As := [.int k1]) (rest := [.int k0]) ⟨hx, hb, hml, hown, hts⟩ (kX10_baitOf l dC dI k1  s.heap.size) ⟨va_cnB 1 hts gX0_wouldBite_0 rfl rfl rfl (hN.1 (.methodLinkNest RX0 60 yX10_baitOf "HookPier") (List.mem_of_getElem? (i := 15) rfl)) (hts (.initialized RX10) (List.mem_of_getElem? (i := 2) rfl)) (by decide +kernel) ⟨Nat.le_of_ble_eq_true rfl, Nat.le_of_ble_eq_true rfl⟩, (hts (.static yX10_baitOf) (List.mem_of_getElem? (i := 3) rfl)), trivial⟩ (PS (hP.sub (ws' := []) [] rfl) (hK.sub (tys' := []) [] rfl) (hD.sub (ws' := []) [] (by decide) rfl) hN) rfl rfl hl.1 rfl (lv_room (Nat.le_of_ble_eq_true rfl)) dX0_wouldBite_2 ⟨Nat.le_of_ble_eq_true rfl, Nat.le_of_ble_eq_true rfl⟩) hP hD hK hS hA [] [] rfl rfl (by decide) (by decide) (fun z1 _u H locs hw hP hD hK hS => ?_)
  have b2 := hw
  have hP : va_P (dC, dI) vwCl [] H := hP
  have hD : va_D A [] := hD
  have hK : va_K (dC, dI) vwCl [] s := hK
  refine lv_iload_n hx hb dX0_wouldBite_5 rfl (lv_at hl 2 rfl) ?_
  refine cl_i (wc := []) (wr := []) (va_runSN (As := [.int k2]) (rest := [.int z1, .int k0]) ⟨hx, hb, hml, hown, hts⟩ (kX10_baitOf l dC dI k2  H.size) ⟨va_cnB 1 hts gX0_wouldBite_0 rfl rfl rfl (hN.1 (.methodLinkNest RX0 60 yX10_baitOf "HookPier") (List.mem_of_getElem? (i := 15) rfl)) (hts (.initialized RX10) (List.mem_of_getElem? (i := 2) rfl)) (by decide +kernel) ⟨Nat.le_of_ble_eq_true rfl, Nat.le_of_ble_eq_true rfl⟩, (hts (.static yX10_baitOf) (List.mem_of_getElem? (i := 3) rfl)), trivial⟩ (PS (hP.sub (ws' := []) [] rfl) (hK.sub (tys' := []) [] rfl) (hD.sub (ws' := []) [] (by decide) rfl) hN) rfl rfl hl.1 rfl (lv_room (Nat.le_of_ble_eq_true rfl)) dX0_wouldBite_6 ⟨Nat.le_of_ble_eq_true rfl, Nat.le_of_ble_eq_true rfl⟩) hP hD hK hS hA [] [] rfl rfl (by decide) (by decide) (fun z3 _u H locs hw hP hD hK hS => ?_)
  have b4 := hw
  have hP : va_P (dC, dI) vwCl [] H := hP
  have hD : va_D A [] := hD
  have hK : va_K (dC, dI) vwCl [] s := hK
  refine lv_icmp_ne (tgt := 17) hx hb dX0_wouldBite_9 (by decide) (fun c5 => ?_) (fun c5 => ?_)
  · simp only [fa_lt, fa_le, fa_eq, ltv_0] at c5
    refine lv_iconst (v := 0) hx hb dX0_wouldBite_17 (by decide) ?_
    refine lv_iadd hx hb dX0_wouldBite_18 ?_
    refine lv_topi (fun z6 ez6 => ?_)
    clear ez6
    refine lv_bipush (v := 10) hx hb dX0_wouldBite_19 (by decide) ?_
    refine lv_iload_n hx hb dX0_wouldBite_21 rfl (lv_at hl 1 rfl) ?_
    refine cl_i (wc := []) (wr := []) (va_runSN (As := [.int k1]) (rest := [.int 10, .int z6]) ⟨hx, hb, hml, hown, hts⟩ (kX10_spotOf l dC dI k1  H.size) ⟨va_cnB 1 hts gX0_wouldBite_1 rfl rfl rfl (hN.1 (.methodLinkNest RX0 64 yX10_spotOf "HookPier") (List.mem_of_getElem? (i := 16) rfl)) (hts (.initialized RX10) (List.mem_of_getElem? (i := 2) rfl)) (by decide +kernel) ⟨Nat.le_of_ble_eq_true rfl, Nat.le_of_ble_eq_true rfl⟩, (hts (.static yX10_spotOf) (List.mem_of_getElem? (i := 5) rfl)), trivial⟩ (PS (hP.sub (ws' := []) [] rfl) (hK.sub (tys' := []) [] rfl) (hD.sub (ws' := []) [] (by decide) rfl) hN) rfl rfl hl.1 rfl (lv_room (Nat.le_of_ble_eq_true rfl)) dX0_wouldBite_22 ⟨Nat.le_of_ble_eq_true rfl, Nat.le_of_ble_eq_true rfl⟩) hP hD hK hS hA [] [] rfl rfl (by decide) (by decide) (fun z7 _u H locs hw hP hD hK hS => ?_)
    have b8 := hw
    have hP : va_P (dC, dI) vwCl [] H := hP
    have hD : va_D A [] := hD
    have hK : va_K (dC, dI) vwCl [] s := hK
    refine lv_iload_n hx hb dX0_wouldBite_25 rfl (lv_at hl 2 rfl) ?_
    refine cl_i (wc := []) (wr := []) (va_runSN (As := [.int k2]) (rest := [.int z7, .int 10, .int z6]) ⟨hx, hb, hml, hown, hts⟩ (kX10_spotOf l dC dI k2  H.size) ⟨va_cnB 1 hts gX0_wouldBite_1 rfl rfl rfl (hN.1 (.methodLinkNest RX0 64 yX10_spotOf "HookPier") (List.mem_of_getElem? (i := 16) rfl)) (hts (.initialized RX10) (List.mem_of_getElem? (i := 2) rfl)) (by decide +kernel) ⟨Nat.le_of_ble_eq_true rfl, Nat.le_of_ble_eq_true rfl⟩, (hts (.static yX10_spotOf) (List.mem_of_getElem? (i := 5) rfl)), trivial⟩ (PS (hP.sub (ws' := []) [] rfl) (hK.sub (tys' := []) [] rfl) (hD.sub (ws' := []) [] (by decide) rfl) hN) rfl rfl hl.1 rfl (lv_room (Nat.le_of_ble_eq_true rfl)) dX0_wouldBite_26 ⟨Nat.le_of_ble_eq_true rfl, Nat.le_of_ble_eq_true rfl⟩) hP hD hK hS hA [] [] rfl rfl (by decide) (by decide) (fun z9 _u H locs hw hP hD hK hS => ?_)
    have b10 := hw
    have hP : va_P (dC, dI) vwCl [] H := hP
    have hD : va_D A [] := hD
    have hK : va_K (dC, dI) vwCl [] s := hK
    refine lv_isub hx hb dX0_wouldBite_29 ?_
    refine lv_topi (fun z11 ez11 => ?_)
    clear ez11
    refine va_mabs hx hb (by rw [hml]; exact hl.1.symm) hown (hts (.methodLink RX0 67 Lib.Math.abs.name) (List.mem_of_getElem? (i := 6) rfl)) (hts (.static Lib.Math.abs.name) (List.mem_of_getElem? (i := 7) rfl)) (hts (.initialized "java/lang/Math") (List.mem_of_getElem? (i := 8) rfl)) (hts (.code Lib.Math.abs.name Lib.Math.abs.code 1 (some .int)) (List.mem_of_getElem? (i := 9) rfl)) (Nat.le_of_ble_eq_true rfl) (Nat.le_of_ble_eq_true rfl) (Nat.le_of_ble_eq_true rfl) (Nat.le_of_ble_eq_true rfl) dX0_wouldBite_30 ?_
    refine lv_topi (fun z12 ez12 => ?_)
    clear ez12
    refine lv_imul hx hb dX0_wouldBite_33 ?_
    refine lv_topi (fun z13 ez13 => ?_)
    clear ez13
    refine lv_isub hx hb dX0_wouldBite_34 ?_
    refine lv_topi (fun z14 ez14 => ?_)
    clear ez14
    refine lv_bipush (v := 8) hx hb dX0_wouldBite_35 (by decide) ?_
    refine lv_iload_n hx hb dX0_wouldBite_37 rfl (lv_at hl 1 rfl) ?_
    refine cl_i (wc := []) (wr := []) (va_runSN (As := [.int k1]) (rest := [.int 8, .int z14]) ⟨hx, hb, hml, hown, hts⟩ (kX10_fathomsOf l dC dI k1  H.size) ⟨va_cnB 1 hts gX0_wouldBite_2 rfl rfl rfl (hN.1 (.methodLinkNest RX0 70 yX10_fathomsOf "HookPier") (List.mem_of_getElem? (i := 17) rfl)) (hts (.initialized RX10) (List.mem_of_getElem? (i := 2) rfl)) (by decide +kernel) ⟨Nat.le_of_ble_eq_true rfl, Nat.le_of_ble_eq_true rfl⟩, (hts (.static yX10_fathomsOf) (List.mem_of_getElem? (i := 11) rfl)), trivial⟩ (PS (hP.sub (ws' := []) [] rfl) (hK.sub (tys' := []) [] rfl) (hD.sub (ws' := []) [] (by decide) rfl) hN) rfl rfl hl.1 rfl (lv_room (Nat.le_of_ble_eq_true rfl)) dX0_wouldBite_38 ⟨Nat.le_of_ble_eq_true rfl, Nat.le_of_ble_eq_true rfl⟩) hP hD hK hS hA [] [] rfl rfl (by decide) (by decide) (fun z15 _u H locs hw hP hD hK hS => ?_)
    have b16 := hw
    have hP : va_P (dC, dI) vwCl [] H := hP
    have hD : va_D A [] := hD
    have hK : va_K (dC, dI) vwCl [] s := hK
    refine lv_iload_n hx hb dX0_wouldBite_41 rfl (lv_at hl 2 rfl) ?_
    refine cl_i (wc := []) (wr := []) (va_runSN (As := [.int k2]) (rest := [.int z15, .int 8, .int z14]) ⟨hx, hb, hml, hown, hts⟩ (kX10_fathomsOf l dC dI k2  H.size) ⟨va_cnB 1 hts gX0_wouldBite_2 rfl rfl rfl (hN.1 (.methodLinkNest RX0 70 yX10_fathomsOf "HookPier") (List.mem_of_getElem? (i := 17) rfl)) (hts (.initialized RX10) (List.mem_of_getElem? (i := 2) rfl)) (by decide +kernel) ⟨Nat.le_of_ble_eq_true rfl, Nat.le_of_ble_eq_true rfl⟩, (hts (.static yX10_fathomsOf) (List.mem_of_getElem? (i := 11) rfl)), trivial⟩ (PS (hP.sub (ws' := []) [] rfl) (hK.sub (tys' := []) [] rfl) (hD.sub (ws' := []) [] (by decide) rfl) hN) rfl rfl hl.1 rfl (lv_room (Nat.le_of_ble_eq_true rfl)) dX0_wouldBite_42 ⟨Nat.le_of_ble_eq_true rfl, Nat.le_of_ble_eq_true rfl⟩) hP hD hK hS hA [] [] rfl rfl (by decide) (by decide) (fun z17 _u H locs hw hP hD hK hS => ?_)
    have b18 := hw
    have hP : va_P (dC, dI) vwCl [] H := hP
    have hD : va_D A [] := hD
    have hK : va_K (dC, dI) vwCl [] s := hK
    refine lv_isub hx hb dX0_wouldBite_45 ?_
    refine lv_topi (fun z19 ez19 => ?_)
    clear ez19
    refine va_mabs hx hb (by rw [hml]; exact hl.1.symm) hown (hts (.methodLink RX0 67 Lib.Math.abs.name) (List.mem_of_getElem? (i := 6) rfl)) (hts (.static Lib.Math.abs.name) (List.mem_of_getElem? (i := 7) rfl)) (hts (.initialized "java/lang/Math") (List.mem_of_getElem? (i := 8) rfl)) (hts (.code Lib.Math.abs.name Lib.Math.abs.code 1 (some .int)) (List.mem_of_getElem? (i := 9) rfl)) (Nat.le_of_ble_eq_true rfl) (Nat.le_of_ble_eq_true rfl) (Nat.le_of_ble_eq_true rfl) (Nat.le_of_ble_eq_true rfl) dX0_wouldBite_46 ?_
    refine lv_topi (fun z20 ez20 => ?_)
    clear ez20
    refine lv_imul hx hb dX0_wouldBite_49 ?_
    refine lv_topi (fun z21 ez21 => ?_)
    clear ez21
    refine lv_isub hx hb dX0_wouldBite_50 ?_
    refine lv_topi (fun z22 ez22 => ?_)
    clear ez22
    refine lv_istore_n (lv' := [(3, .int z22), (0, .int k0), (1, .int k1), (2, .int k2)]) hx hb dX0_wouldBite_51 rfl hl (by decide) rfl (fun ls hl => ?_)
    refine lv_iload_n hx hb dX0_wouldBite_52 rfl (lv_at hl 0 rfl) ?_
    refine lv_bipush (v := 50) hx hb dX0_wouldBite_53 (by decide) ?_
    refine lv_icmp_lt (tgt := 62) hx hb dX0_wouldBite_55 (by decide) (fun c23 => ?_) (fun c23 => ?_)
    · simp only [fa_lt, fa_le, fa_eq, ltv_0, ltv_50] at c23
      refine lv_iconst (v := 0) hx hb dX0_wouldBite_62 (by decide) ?_
      have hP9 := hP.sub (ws' := []) [] rfl
      have hD9 := hD.sub (ws' := []) [] (by decide) rfl
      have hK9 := hK.sub (tys' := []) [] rfl
      exact W.zret (v := 0) hx hb hr rfl (fun t ht hW => ⟨⟨0, (), rfl, (by first | trivial | omega | (simp only [ltv_0]; omega)), by rw [ht]; exact hP9, va_K.moved hW.alike hK9, hD9⟩, hS.F ht⟩) hS.2.2 dX0_wouldBite_63
    · simp only [fa_lt, fa_le, fa_eq, ltv_0, ltv_50] at c23
      refine lv_iconst (v := 1) hx hb dX0_wouldBite_58 (by decide) ?_
      refine lv_goto (tgt := 63) hx hb dX0_wouldBite_59 (by decide) ?_
      have hP9 := hP.sub (ws' := []) [] rfl
      have hD9 := hD.sub (ws' := []) [] (by decide) rfl
      have hK9 := hK.sub (tys' := []) [] rfl
      exact W.zret (v := 1) hx hb hr rfl (fun t ht hW => ⟨⟨1, (), rfl, (by first | trivial | omega | (simp only [ltv_0, ltv_1]; omega)), by rw [ht]; exact hP9, va_K.moved hW.alike hK9, hD9⟩, hS.F ht⟩) hS.2.2 dX0_wouldBite_63
  · simp only [fa_lt, fa_le, fa_eq, ltv_0] at c5
    refine lv_bipush (v := 20) hx hb dX0_wouldBite_12 (by decide) ?_
    refine lv_goto (tgt := 18) hx hb dX0_wouldBite_14 (by decide) ?_
    refine lv_iadd hx hb dX0_wouldBite_18 ?_
    refine lv_topi (fun z24 ez24 => ?_)
    clear ez24
    refine lv_bipush (v := 10) hx hb dX0_wouldBite_19 (by decide) ?_
    refine lv_iload_n hx hb dX0_wouldBite_21 rfl (lv_at hl 1 rfl) ?_
    refine cl_i (wc := []) (wr := []) (va_runSN (As := [.int k1]) (rest := [.int 10, .int z24]) ⟨hx, hb, hml, hown, hts⟩ (kX10_spotOf l dC dI k1  H.size) ⟨va_cnB 1 hts gX0_wouldBite_1 rfl rfl rfl (hN.1 (.methodLinkNest RX0 64 yX10_spotOf "HookPier") (List.mem_of_getElem? (i := 16) rfl)) (hts (.initialized RX10) (List.mem_of_getElem? (i := 2) rfl)) (by decide +kernel) ⟨Nat.le_of_ble_eq_true rfl, Nat.le_of_ble_eq_true rfl⟩, (hts (.static yX10_spotOf) (List.mem_of_getElem? (i := 5) rfl)), trivial⟩ (PS (hP.sub (ws' := []) [] rfl) (hK.sub (tys' := []) [] rfl) (hD.sub (ws' := []) [] (by decide) rfl) hN) rfl rfl hl.1 rfl (lv_room (Nat.le_of_ble_eq_true rfl)) dX0_wouldBite_22 ⟨Nat.le_of_ble_eq_true rfl, Nat.le_of_ble_eq_true rfl⟩) hP hD hK hS hA [] [] rfl rfl (by decide) (by decide) (fun z25 _u H locs hw hP hD hK hS => ?_)
    have b26 := hw
    have hP : va_P (dC, dI) vwCl [] H := hP
    have hD : va_D A [] := hD
    have hK : va_K (dC, dI) vwCl [] s := hK
    refine lv_iload_n hx hb dX0_wouldBite_25 rfl (lv_at hl 2 rfl) ?_
    refine cl_i (wc := []) (wr := []) (va_runSN (As := [.int k2]) (rest := [.int z25, .int 10, .int z24]) ⟨hx, hb, hml, hown, hts⟩ (kX10_spotOf l dC dI k2  H.size) ⟨va_cnB 1 hts gX0_wouldBite_1 rfl rfl rfl (hN.1 (.methodLinkNest RX0 64 yX10_spotOf "HookPier") (List.mem_of_getElem? (i := 16) rfl)) (hts (.initialized RX10) (List.mem_of_getElem? (i := 2) rfl)) (by decide +kernel) ⟨Nat.le_of_ble_eq_true rfl, Nat.le_of_ble_eq_true rfl⟩, (hts (.static yX10_spotOf) (List.mem_of_getElem? (i := 5) rfl)), trivial⟩ (PS (hP.sub (ws' := []) [] rfl) (hK.sub (tys' := []) [] rfl) (hD.sub (ws' := []) [] (by decide) rfl) hN) rfl rfl hl.1 rfl (lv_room (Nat.le_of_ble_eq_true rfl)) dX0_wouldBite_26 ⟨Nat.le_of_ble_eq_true rfl, Nat.le_of_ble_eq_true rfl⟩) hP hD hK hS hA [] [] rfl rfl (by decide) (by decide) (fun z27 _u H locs hw hP hD hK hS => ?_)
    have b28 := hw
    have hP : va_P (dC, dI) vwCl [] H := hP
    have hD : va_D A [] := hD
    have hK : va_K (dC, dI) vwCl [] s := hK
    refine lv_isub hx hb dX0_wouldBite_29 ?_
    refine lv_topi (fun z29 ez29 => ?_)
    clear ez29
    refine va_mabs hx hb (by rw [hml]; exact hl.1.symm) hown (hts (.methodLink RX0 67 Lib.Math.abs.name) (List.mem_of_getElem? (i := 6) rfl)) (hts (.static Lib.Math.abs.name) (List.mem_of_getElem? (i := 7) rfl)) (hts (.initialized "java/lang/Math") (List.mem_of_getElem? (i := 8) rfl)) (hts (.code Lib.Math.abs.name Lib.Math.abs.code 1 (some .int)) (List.mem_of_getElem? (i := 9) rfl)) (Nat.le_of_ble_eq_true rfl) (Nat.le_of_ble_eq_true rfl) (Nat.le_of_ble_eq_true rfl) (Nat.le_of_ble_eq_true rfl) dX0_wouldBite_30 ?_
    refine lv_topi (fun z30 ez30 => ?_)
    clear ez30
    refine lv_imul hx hb dX0_wouldBite_33 ?_
    refine lv_topi (fun z31 ez31 => ?_)
    clear ez31
    refine lv_isub hx hb dX0_wouldBite_34 ?_
    refine lv_topi (fun z32 ez32 => ?_)
    clear ez32
    refine lv_bipush (v := 8) hx hb dX0_wouldBite_35 (by decide) ?_
    refine lv_iload_n hx hb dX0_wouldBite_37 rfl (lv_at hl 1 rfl) ?_
    refine cl_i (wc := []) (wr := []) (va_runSN (As := [.int k1]) (rest := [.int 8, .int z32]) ⟨hx, hb, hml, hown, hts⟩ (kX10_fathomsOf l dC dI k1  H.size) ⟨va_cnB 1 hts gX0_wouldBite_2 rfl rfl rfl (hN.1 (.methodLinkNest RX0 70 yX10_fathomsOf "HookPier") (List.mem_of_getElem? (i := 17) rfl)) (hts (.initialized RX10) (List.mem_of_getElem? (i := 2) rfl)) (by decide +kernel) ⟨Nat.le_of_ble_eq_true rfl, Nat.le_of_ble_eq_true rfl⟩, (hts (.static yX10_fathomsOf) (List.mem_of_getElem? (i := 11) rfl)), trivial⟩ (PS (hP.sub (ws' := []) [] rfl) (hK.sub (tys' := []) [] rfl) (hD.sub (ws' := []) [] (by decide) rfl) hN) rfl rfl hl.1 rfl (lv_room (Nat.le_of_ble_eq_true rfl)) dX0_wouldBite_38 ⟨Nat.le_of_ble_eq_true rfl, Nat.le_of_ble_eq_true rfl⟩) hP hD hK hS hA [] [] rfl rfl (by decide) (by decide) (fun z33 _u H locs hw hP hD hK hS => ?_)
    have b34 := hw
    have hP : va_P (dC, dI) vwCl [] H := hP
    have hD : va_D A [] := hD
    have hK : va_K (dC, dI) vwCl [] s := hK
    refine lv_iload_n hx hb dX0_wouldBite_41 rfl (lv_at hl 2 rfl) ?_
    refine cl_i (wc := []) (wr := []) (va_runSN (As := [.int k2]) (rest := [.int z33, .int 8, .int z32]) ⟨hx, hb, hml, hown, hts⟩ (kX10_fathomsOf l dC dI k2  H.size) ⟨va_cnB 1 hts gX0_wouldBite_2 rfl rfl rfl (hN.1 (.methodLinkNest RX0 70 yX10_fathomsOf "HookPier") (List.mem_of_getElem? (i := 17) rfl)) (hts (.initialized RX10) (List.mem_of_getElem? (i := 2) rfl)) (by decide +kernel) ⟨Nat.le_of_ble_eq_true rfl, Nat.le_of_ble_eq_true rfl⟩, (hts (.static yX10_fathomsOf) (List.mem_of_getElem? (i := 11) rfl)), trivial⟩ (PS (hP.sub (ws' := []) [] rfl) (hK.sub (tys' := []) [] rfl) (hD.sub (ws' := []) [] (by decide) rfl) hN) rfl rfl hl.1 rfl (lv_room (Nat.le_of_ble_eq_true rfl)) dX0_wouldBite_42 ⟨Nat.le_of_ble_eq_true rfl, Nat.le_of_ble_eq_true rfl⟩) hP hD hK hS hA [] [] rfl rfl (by decide) (by decide) (fun z35 _u H locs hw hP hD hK hS => ?_)
    have b36 := hw
    have hP : va_P (dC, dI) vwCl [] H := hP
    have hD : va_D A [] := hD
    have hK : va_K (dC, dI) vwCl [] s := hK
    refine lv_isub hx hb dX0_wouldBite_45 ?_
    refine lv_topi (fun z37 ez37 => ?_)
    clear ez37
    refine va_mabs hx hb (by rw [hml]; exact hl.1.symm) hown (hts (.methodLink RX0 67 Lib.Math.abs.name) (List.mem_of_getElem? (i := 6) rfl)) (hts (.static Lib.Math.abs.name) (List.mem_of_getElem? (i := 7) rfl)) (hts (.initialized "java/lang/Math") (List.mem_of_getElem? (i := 8) rfl)) (hts (.code Lib.Math.abs.name Lib.Math.abs.code 1 (some .int)) (List.mem_of_getElem? (i := 9) rfl)) (Nat.le_of_ble_eq_true rfl) (Nat.le_of_ble_eq_true rfl) (Nat.le_of_ble_eq_true rfl) (Nat.le_of_ble_eq_true rfl) dX0_wouldBite_46 ?_
    refine lv_topi (fun z38 ez38 => ?_)
    clear ez38
    refine lv_imul hx hb dX0_wouldBite_49 ?_
    refine lv_topi (fun z39 ez39 => ?_)
    clear ez39
    refine lv_isub hx hb dX0_wouldBite_50 ?_
    refine lv_topi (fun z40 ez40 => ?_)
    clear ez40
    refine lv_istore_n (lv' := [(3, .int z40), (0, .int k0), (1, .int k1), (2, .int k2)]) hx hb dX0_wouldBite_51 rfl hl (by decide) rfl (fun ls hl => ?_)
    refine lv_iload_n hx hb dX0_wouldBite_52 rfl (lv_at hl 0 rfl) ?_
    refine lv_bipush (v := 50) hx hb dX0_wouldBite_53 (by decide) ?_
    refine lv_icmp_lt (tgt := 62) hx hb dX0_wouldBite_55 (by decide) (fun c41 => ?_) (fun c41 => ?_)
    · simp only [fa_lt, fa_le, fa_eq, ltv_0, ltv_50] at c41
      refine lv_iconst (v := 0) hx hb dX0_wouldBite_62 (by decide) ?_
      have hP9 := hP.sub (ws' := []) [] rfl
      have hD9 := hD.sub (ws' := []) [] (by decide) rfl
      have hK9 := hK.sub (tys' := []) [] rfl
      exact W.zret (v := 0) hx hb hr rfl (fun t ht hW => ⟨⟨0, (), rfl, (by first | trivial | omega | (simp only [ltv_0]; omega)), by rw [ht]; exact hP9, va_K.moved hW.alike hK9, hD9⟩, hS.F ht⟩) hS.2.2 dX0_wouldBite_63
    · simp only [fa_lt, fa_le, fa_eq, ltv_0, ltv_50] at c41
      refine lv_iconst (v := 1) hx hb dX0_wouldBite_58 (by decide) ?_
      refine lv_goto (tgt := 63) hx hb dX0_wouldBite_59 (by decide) ?_
      have hP9 := hP.sub (ws' := []) [] rfl
      have hD9 := hD.sub (ws' := []) [] (by decide) rfl
      have hK9 := hK.sub (tys' := []) [] rfl
      exact W.zret (v := 1) hx hb hr rfl (fun t ht hW => ⟨⟨1, (), rfl, (by first | trivial | omega | (simp only [ltv_0, ltv_1]; omega)), by rw [ht]; exact hP9, va_K.moved hW.alike hK9, hD9⟩, hS.F ht⟩) hS.2.2 dX0_wouldBite_63
theorem dX0_isAsTold_0 : decode cX0_isAsTold 0 = .ok (.iconst 0, 1) := by decide +kernel
theorem dX0_isAsTold_1 : decode cX0_isAsTold 1 = .ok (.istore_n 2, 1) := by decide +kernel
theorem dX0_isAsTold_10 : decode cX0_isAsTold 10 = .ok (.aload_n 0, 1) := by decide +kernel
theorem dX0_isAsTold_11 : decode cX0_isAsTold 11 = .ok (.getfield 37, 3) := by decide +kernel
theorem dX0_isAsTold_14 : decode cX0_isAsTold 14 = .ok (.iload_n 1, 1) := by decide +kernel
theorem dX0_isAsTold_15 : decode cX0_isAsTold 15 = .ok (.aload_n 0, 1) := by decide +kernel
theorem dX0_isAsTold_16 : decode cX0_isAsTold 16 = .ok (.getfield 53, 3) := by decide +kernel
theorem dX0_isAsTold_19 : decode cX0_isAsTold 19 = .ok (.iload_n 2, 1) := by decide +kernel
theorem dX0_isAsTold_2 : decode cX0_isAsTold 2 = .ok (.iload_n 2, 1) := by decide +kernel
theorem dX0_isAsTold_20 : decode cX0_isAsTold 20 = .ok (.iaload, 1) := by decide +kernel
theorem dX0_isAsTold_21 : decode cX0_isAsTold 21 = .ok (.invokestatic 40, 3) := by decide +kernel
theorem dX0_isAsTold_24 : decode cX0_isAsTold 24 = .ok (.aload_n 0, 1) := by decide +kernel
theorem dX0_isAsTold_25 : decode cX0_isAsTold 25 = .ok (.getfield 56, 3) := by decide +kernel
theorem dX0_isAsTold_28 : decode cX0_isAsTold 28 = .ok (.iload_n 2, 1) := by decide +kernel
theorem dX0_isAsTold_29 : decode cX0_isAsTold 29 = .ok (.baload, 1) := by decide +kernel
theorem dX0_isAsTold_3 : decode cX0_isAsTold 3 = .ok (.aload_n 0, 1) := by decide +kernel
theorem dX0_isAsTold_30 : decode cX0_isAsTold 30 = .ok (.if_icmp .eq 5, 3) := by decide +kernel
theorem dX0_isAsTold_33 : decode cX0_isAsTold 33 = .ok (.iconst 0, 1) := by decide +kernel
theorem dX0_isAsTold_34 : decode cX0_isAsTold 34 = .ok (.ireturn, 1) := by decide +kernel
theorem dX0_isAsTold_35 : decode cX0_isAsTold 35 = .ok (.iinc 2 1, 3) := by decide +kernel
theorem dX0_isAsTold_38 : decode cX0_isAsTold 38 = .ok (.goto (-36), 3) := by decide +kernel
theorem dX0_isAsTold_4 : decode cX0_isAsTold 4 = .ok (.getfield 50, 3) := by decide +kernel
theorem dX0_isAsTold_41 : decode cX0_isAsTold 41 = .ok (.iconst 1, 1) := by decide +kernel
theorem dX0_isAsTold_42 : decode cX0_isAsTold 42 = .ok (.ireturn, 1) := by decide +kernel
theorem dX0_isAsTold_7 : decode cX0_isAsTold 7 = .ok (.if_icmp .ge 34, 3) := by decide +kernel
def vX0_isAsTold : List Cond := .code yX0_isAsTold cX0_isAsTold 3 (some .boolean) :: ([.fieldLink RX0 50 "HookPier$Plan" "bites" "I", .fieldLink RX0 37 "HookPier$Plan" "darkHunger" "I", .fieldLink RX0 53 "HookPier$Plan" "bite" "[I", .methodLink RX0 40 yX0_wouldBite, .static yX0_wouldBite, .initialized RX0, .code yX0_wouldBite cX0_wouldBite 4 (some .boolean), .code yX10_baitOf cX10_baitOf 1 (some .int), .initialized RX10, .static yX10_baitOf, .code yX10_spotOf cX10_spotOf 1 (some .int), .static yX10_spotOf, .methodLink RX0 67 Lib.Math.abs.name, .static Lib.Math.abs.name, .initialized "java/lang/Math", .code Lib.Math.abs.name Lib.Math.abs.code 1 (some .int), .code yX10_fathomsOf cX10_fathomsOf 1 (some .int), .static yX10_fathomsOf, .fieldLink RX0 56 "HookPier$Plan" "bit" "[Z"] ++ wsX60)
theorem iX0_isAsTold_X6 : ∀ w ∈ wsX60, w ∈ vX0_isAsTold := fun _ h => List.mem_cons_of_mem _ (List.mem_append_right _ h)
set_option maxRecDepth 20000 in
theorem gX0_isAsTold_0 : GoodIn vX0_isAsTold (va_wsS RX0 40 yX0_wouldBite vX0_wouldBite) := goodIn_app (goodIn_r [.methodLink RX0 40 yX0_wouldBite, .static yX0_wouldBite, .initialized RX0] [4, 5, 6] (by decide +kernel) (by decide +kernel)) (goodIn_r (.code yX0_wouldBite cX0_wouldBite 4 (some .boolean) :: [.code yX10_baitOf cX10_baitOf 1 (some .int), .initialized RX10, .static yX10_baitOf, .code yX10_spotOf cX10_spotOf 1 (some .int), .static yX10_spotOf, .methodLink RX0 67 Lib.Math.abs.name, .static Lib.Math.abs.name, .initialized "java/lang/Math", .code Lib.Math.abs.name Lib.Math.abs.code 1 (some .int), .code yX10_fathomsOf cX10_fathomsOf 1 (some .int), .static yX10_fathomsOf]) [7, 8, 9, 10, 11, 12, 13, 14, 15, 16, 17, 18] (by decide +kernel) (by decide +kernel) : GoodIn vX0_isAsTold (.code yX0_wouldBite cX0_wouldBite 4 (some .boolean) :: [.code yX10_baitOf cX10_baitOf 1 (some .int), .initialized RX10, .static yX10_baitOf, .code yX10_spotOf cX10_spotOf 1 (some .int), .static yX10_spotOf, .methodLink RX0 67 Lib.Math.abs.name, .static Lib.Math.abs.name, .initialized "java/lang/Math", .code Lib.Math.abs.name Lib.Math.abs.code 1 (some .int), .code yX10_fathomsOf cX10_fathomsOf 1 (some .int), .static yX10_fathomsOf]))
set_option maxHeartbeats 2000000 in
set_option maxRecDepth 100000 in
theorem kX0_isAsTold (l : Launch) (dC : Nat → ClassId) (dI : Nat → Nat → Nat) (a0 : Nat) (k1 : Int32) (a2 : Nat) (a3 : Nat) (g4 : Value) (g5 : Value) (g6 : Value) (g7 : Value) (g8 : Value) (g9 : Value) (g10 : Value) (k11 : Int32) (k12 : Int32) (g13 : Value) (g14 : Value) (g15 : Value) (g16 : Value) (g17 : Value) (g18 : Value) (g19 : Value) (cB20 : ClassId) (f21 : Nat → Int32) (cB22 : ClassId) (f23 : Nat → Int32) (hk11 : (0 ≤ k11.toInt ∧ k11.toInt ≤ 6)) (hk12 : ((-1) ≤ k12.toInt ∧ k12.toInt ≤ 99)) (sz : Nat) : Met l yX0_isAsTold vX0_isAsTold ({ frames := 2, cells := 0, slots := 0, locals := 44 }) (PC (dC, dI) [.ref a0, .int k1] sz [(a0, .inr (4, [g4, g5, g6, g7, g8, g9, g10, .int k11, .int k12, g13, g14, g15, g16, g17, g18, g19, .ref a2, .ref a3])), (a2, .inl (cB20, 6, .inl f21)), (a3, .inl (cB22, 6, .inl f23))] [(cB20, .int), (cB22, .boolean)]) (va_Qi (S := Unit) (fun (r : Int32) _ => (0 ≤ r.toInt ∧ r.toInt ≤ 1)) (fun _ t => BC (dC, dI) (va_A [(a0, .inr (4, [g4, g5, g6, g7, g8, g9, g10, .int k11, .int k12, g13, g14, g15, g16, g17, g18, g19, .ref a2, .ref a3])), (a2, .inl (cB20, 6, .inl f21)), (a3, .inl (cB22, 6, .inl f23))] sz) [(a0, .inr (4, [g4, g5, g6, g7, g8, g9, g10, .int k11, .int k12, g13, g14, g15, g16, g17, g18, g19, .ref a2, .ref a3])), (a2, .inl (cB20, 6, .inl f21)), (a3, .inl (cB22, 6, .inl f23))] [] t) (va_A [(a0, .inr (4, [g4, g5, g6, g7, g8, g9, g10, .int k11, .int k12, g13, g14, g15, g16, g17, g18, g19, .ref a2, .ref a3])), (a2, .inl (cB20, 6, .inl f21)), (a3, .inl (cB22, 6, .inl f23))] sz)) 0 0 (va_A [(a0, .inr (4, [g4, g5, g6, g7, g8, g9, g10, .int k11, .int k12, g13, g14, g15, g16, g17, g18, g19, .ref a2, .ref a3])), (a2, .inl (cB20, 6, .inl f21)), (a3, .inl (cB22, 6, .inl f23))] sz) := by
  refine Met.ofW (cc := cX0_isAsTold) (maxL := 3) (ret := (some .boolean)) (by decide) rfl ?_
  intro p e s m args below meth c s₁ B hml hv
  obtain ⟨rfl, hsz, hP, hK, hD0, hN⟩ := hv
  have hx := B.exec
  have hb := B.bytes
  have hr := B.returns
  have hts := atoms_spec (ws := vX0_isAsTold) B.pre
  have hown : s.vm.findClass RX0 = some m.cls := findClass_of_methodNamed B.named
  have hlocks := B.notSynchronized
  subst hsz
  have hD := hD0.self (sz := s.heap.size)
  generalize hAe : va_A [(a0, .inr (4, [g4, g5, g6, g7, g8, g9, g10, .int k11, .int k12, g13, g14, g15, g16, g17, g18, g19, .ref a2, .ref a3])), (a2, .inl (cB20, 6, .inl f21)), (a3, .inl (cB22, 6, .inl f23))] s.heap.size = A at hD ⊢
  have hA : ∀ q : Nat, s.heap.size ≤ q → A q := fun q h => by rw [← hAe]; exact Or.inr h
  have hS : va_S A s.heap s.heap [] := va_S.rf
  have hP : va_P (dC, dI) vwCl [(a0, .inr (4, [g4, g5, g6, g7, g8, g9, g10, .int k11, .int k12, g13, g14, g15, g16, g17, g18, g19, .ref a2, .ref a3])), (a2, .inl (cB20, 6, .inl f21)), (a3, .inl (cB22, 6, .inl f23))] s.heap := hP
  have hl := lv_entry ([.ref a0, .int k1]) (n := 3) (Nat.le_of_ble_eq_true rfl)
  rw [lg_entry_eq]
  generalize (lg_sl ([.ref a0, .int k1]) ++ List.replicate (3 - (lg_sl ([.ref a0, .int k1])).length) Slot.unset).toArray = ls at hl ⊢
  have hl : lv_has ls 3 [(0, .ref a0), (1, .int k1)] := hl
  refine lv_iconst (v := 0) hx hb dX0_isAsTold_0 (by decide) ?_
  refine lv_istore_n (lv' := [(2, .int 0), (0, .ref a0), (1, .int k1)]) hx hb dX0_isAsTold_1 rfl hl (by decide) rfl (fun ls hl => ?_)
  have L2_43 : ∀ (n : Nat) (z42 : Int32) (H : Heap) (locs : List Loc) (ls : Array Slot), (0 ≤ z42.toInt ∧ z42.toInt ≤ 6) → 6 - z42.toInt < (n : Int) → va_P (dC, dI) vwCl [(a0, .inr (4, [g4, g5, g6, g7, g8, g9, g10, .int k11, .int k12, g13, g14, g15, g16, g17, g18, g19, .ref a2, .ref a3])), (a2, .inl (cB20, 6, .inl f21)), (a3, .inl (cB22, 6, .inl f23))] H → va_D A [(a0, .inr (4, [g4, g5, g6, g7, g8, g9, g10, .int k11, .int k12, g13, g14, g15, g16, g17, g18, g19, .ref a2, .ref a3])), (a2, .inl (cB20, 6, .inl f21)), (a3, .inl (cB22, 6, .inl f23))] → va_S A s.heap H locs → lv_has ls 3 [(2, .int z42), (0, .ref a0), (1, .int k1)] → W p l e (headSpec vX0_isAsTold { frames := 2, cells := 0, slots := 0, locals := 44 }).room s m ([.ref a0, .int k1]).toArray below meth c H locs 0 0 (MQ below (va_Qi (S := Unit) (fun (r : Int32) _ => (0 ≤ r.toInt ∧ r.toInt ≤ 1)) (fun _ t => BC (dC, dI) A [(a0, .inr (4, [g4, g5, g6, g7, g8, g9, g10, .int k11, .int k12, g13, g14, g15, g16, g17, g18, g19, .ref a2, .ref a3])), (a2, .inl (cB20, 6, .inl f21)), (a3, .inl (cB22, 6, .inl f23))] [] t) A) ([.ref a0, .int k1]).toArray s 0 0 A) (F0 m 2 ls []) := by
    intro n
    induction n with
    | zero =>
      intro z42 H locs ls b2_0 hm _ _ _ _
      exact absurd hm (by omega)
    | succ n ih2 =>
      intro z42 H locs ls b2_0 hm2 hP hD hS hl
      refine lv_iload_n hx hb dX0_isAsTold_2 rfl (lv_at hl 0 rfl) ?_
      refine lv_aload_n hx hb dX0_isAsTold_3 rfl (lv_at hl 1 rfl) ?_
      refine va_get (D := (dC, dI)) (ci := 4) (v := .int k11) (C := RX6) (T := TX6) (N := 18) hx hb hts iX0_isAsTold_X6 hown hK hP 0 rfl rfl 7 (by decide) (hts (.fieldLink RX0 50 "HookPier$Plan" "bites" "I") (List.mem_of_getElem? (i := 1) rfl)) (fun _ h9 => h9) rfl dX0_isAsTold_4 ?_
      refine lv_icmp_ge (tgt := 41) hx hb dX0_isAsTold_7 (by decide) (fun c44 => ?_) (fun c44 => ?_)
      · simp only [fa_lt, fa_le, fa_eq, ltv_0] at c44
        refine lv_iconst (v := 1) hx hb dX0_isAsTold_41 (by decide) ?_
        have hP9 := hP.sub (ws' := [(a0, .inr (4, [g4, g5, g6, g7, g8, g9, g10, .int k11, .int k12, g13, g14, g15, g16, g17, g18, g19, .ref a2, .ref a3])), (a2, .inl (cB20, 6, .inl f21)), (a3, .inl (cB22, 6, .inl f23))]) [0, 1, 2] rfl
        have hD9 := hD.sub (ws' := [(a0, .inr (4, [g4, g5, g6, g7, g8, g9, g10, .int k11, .int k12, g13, g14, g15, g16, g17, g18, g19, .ref a2, .ref a3])), (a2, .inl (cB20, 6, .inl f21)), (a3, .inl (cB22, 6, .inl f23))]) [0, 1, 2] (by decide) rfl
        have hK9 := hK.sub (tys' := []) [] rfl
        exact W.zret (v := 1) hx hb hr rfl (fun t ht hW => ⟨⟨1, (), rfl, (by first | trivial | omega | (simp only [ltv_0, ltv_1]; omega)), by rw [ht]; exact hP9, va_K.moved hW.alike hK9, hD9⟩, hS.F ht⟩) hS.2.2 dX0_isAsTold_42
      · simp only [fa_lt, fa_le, fa_eq, ltv_0] at c44
        refine lv_aload_n hx hb dX0_isAsTold_10 rfl (lv_at hl 1 rfl) ?_
        refine va_get (D := (dC, dI)) (ci := 4) (v := .int k12) (C := RX6) (T := TX6) (N := 18) hx hb hts iX0_isAsTold_X6 hown hK hP 0 rfl rfl 8 (by decide) (hts (.fieldLink RX0 37 "HookPier$Plan" "darkHunger" "I") (List.mem_of_getElem? (i := 2) rfl)) (fun _ h9 => h9) rfl dX0_isAsTold_11 ?_
        refine lv_iload_n hx hb dX0_isAsTold_14 rfl (lv_at hl 2 rfl) ?_
        refine lv_aload_n hx hb dX0_isAsTold_15 rfl (lv_at hl 1 rfl) ?_
        refine va_get (D := (dC, dI)) (ci := 4) (v := .ref a2) (C := RX6) (T := TX6) (N := 18) hx hb hts iX0_isAsTold_X6 hown hK hP 0 rfl rfl 16 (by decide) (hts (.fieldLink RX0 53 "HookPier$Plan" "bite" "[I") (List.mem_of_getElem? (i := 3) rfl)) (fun _ h9 => h9) rfl dX0_isAsTold_16 ?_
        refine lv_iload_n hx hb dX0_isAsTold_19 rfl (lv_at hl 0 rfl) ?_
        refine va_iald hx hb hK hP 1 0 rfl rfl (vp_in_iff.mpr (by omega)) dX0_isAsTold_20 ?_
        refine lv_topi (fun z45 ez45 => ?_)
        clear ez45
        refine cl_i (wc := []) (wr := [(a0, .inr (4, [g4, g5, g6, g7, g8, g9, g10, .int k11, .int k12, g13, g14, g15, g16, g17, g18, g19, .ref a2, .ref a3])), (a2, .inl (cB20, 6, .inl f21)), (a3, .inl (cB22, 6, .inl f23))]) (va_runS (As := [.int k12, .int k1, .int z45]) (rest := []) ⟨hx, hb, hml, hown, hts⟩ (kX0_wouldBite l dC dI k12 k1 z45  H.size) (va_cwS 3 hts gX0_isAsTold_0 rfl rfl rfl (by decide +kernel) ⟨Nat.le_of_ble_eq_true rfl, Nat.le_of_ble_eq_true rfl⟩) (PS (hP.sub (ws' := []) [] rfl) (hK.sub (tys' := []) [] rfl) (hD.sub (ws' := []) [] (by decide) rfl) hN) rfl rfl hl.1 rfl (lv_room (Nat.le_of_ble_eq_true rfl)) dX0_isAsTold_21 ⟨Nat.le_of_ble_eq_true rfl, Nat.le_of_ble_eq_true rfl⟩) hP hD hK hS hA [] [0, 1, 2] rfl rfl (by decide) (by decide) (fun z46 _u H locs hw hP hD hK hS => ?_)
        have b47 := hw
        have hP : va_P (dC, dI) vwCl [(a0, .inr (4, [g4, g5, g6, g7, g8, g9, g10, .int k11, .int k12, g13, g14, g15, g16, g17, g18, g19, .ref a2, .ref a3])), (a2, .inl (cB20, 6, .inl f21)), (a3, .inl (cB22, 6, .inl f23))] H := hP
        have hD : va_D A [(a0, .inr (4, [g4, g5, g6, g7, g8, g9, g10, .int k11, .int k12, g13, g14, g15, g16, g17, g18, g19, .ref a2, .ref a3])), (a2, .inl (cB20, 6, .inl f21)), (a3, .inl (cB22, 6, .inl f23))] := hD
        have hK : va_K (dC, dI) vwCl [(cB20, .int), (cB22, .boolean)] s := hK
        refine lv_aload_n hx hb dX0_isAsTold_24 rfl (lv_at hl 1 rfl) ?_
        refine va_get (D := (dC, dI)) (ci := 4) (v := .ref a3) (C := RX6) (T := TX6) (N := 18) hx hb hts iX0_isAsTold_X6 hown hK hP 0 rfl rfl 17 (by decide) (hts (.fieldLink RX0 56 "HookPier$Plan" "bit" "[Z") (List.mem_of_getElem? (i := 19) rfl)) (fun _ h9 => h9) rfl dX0_isAsTold_25 ?_
        refine lv_iload_n hx hb dX0_isAsTold_28 rfl (lv_at hl 0 rfl) ?_
        refine va_zald hx hb hK hP 2 1 rfl rfl (vp_in_iff.mpr (by omega)) dX0_isAsTold_29 ?_
        refine lv_topi (fun z48 ez48 => ?_)
        clear ez48
        refine lv_icmp_eq (tgt := 35) hx hb dX0_isAsTold_30 (by decide) (fun c49 => ?_) (fun c49 => ?_)
        · simp only [fa_lt, fa_le, fa_eq, ltv_0] at c49
          obtain ⟨z50, ez50⟩ : ∃ y : Int32, y = z42 + 1 := ⟨_, rfl⟩
          have tz50 : z50.toInt = z42.toInt + 1 := by rw [ez50, iadd_t (by simp only [ltv_1]; omega) (by simp only [ltv_1]; omega)]; simp only [ltv_1]
          refine lv_iinc (v := z50) (lv' := [(2, .int z50), (0, .ref a0), (1, .int k1)]) hx hb dX0_isAsTold_35 hl (k := 0) rfl (by rw [ez50]; rfl) (by decide) rfl (fun ls hl => ?_)
          refine lv_goto (tgt := 2) hx hb dX0_isAsTold_38 (by decide) ?_
          exact ih2 z50 H locs ls (by first | omega | (simp only [ltv_0]; omega)) (by first | omega | (simp only [ltv_0]; omega)) hP hD hS (lv_sub hl [0, 1, 2] rfl)
        · simp only [fa_lt, fa_le, fa_eq, ltv_0] at c49
          refine lv_iconst (v := 0) hx hb dX0_isAsTold_33 (by decide) ?_
          have hP9 := hP.sub (ws' := [(a0, .inr (4, [g4, g5, g6, g7, g8, g9, g10, .int k11, .int k12, g13, g14, g15, g16, g17, g18, g19, .ref a2, .ref a3])), (a2, .inl (cB20, 6, .inl f21)), (a3, .inl (cB22, 6, .inl f23))]) [0, 1, 2] rfl
          have hD9 := hD.sub (ws' := [(a0, .inr (4, [g4, g5, g6, g7, g8, g9, g10, .int k11, .int k12, g13, g14, g15, g16, g17, g18, g19, .ref a2, .ref a3])), (a2, .inl (cB20, 6, .inl f21)), (a3, .inl (cB22, 6, .inl f23))]) [0, 1, 2] (by decide) rfl
          have hK9 := hK.sub (tys' := []) [] rfl
          exact W.zret (v := 0) hx hb hr rfl (fun t ht hW => ⟨⟨0, (), rfl, (by first | trivial | omega | (simp only [ltv_0]; omega)), by rw [ht]; exact hP9, va_K.moved hW.alike hK9, hD9⟩, hS.F ht⟩) hS.2.2 dX0_isAsTold_34
  exact L2_43 7 (0) s.heap _ ls (by first | omega | (simp only [ltv_0]; omega)) (by first | omega | (simp only [ltv_0]; omega)) hP hD hS (lv_sub hl [0, 1, 2] rfl)
theorem dX0_find_0 : decode cX0_find 0 = .ok (.aload_n 0, 1) := by decide +kernel
theorem dX0_find_1 : decode cX0_find 1 = .ok (.iconst 0, 1) := by decide +kernel
theorem dX0_find_12 : decode cX0_find 12 = .ok (.if_icmp .ge 57, 3) := by decide +kernel
theorem dX0_find_15 : decode cX0_find 15 = .ok (.aload_n 1, 1) := by decide +kernel
theorem dX0_find_16 : decode cX0_find 16 = .ok (.iload_n 2, 1) := by decide +kernel
theorem dX0_find_17 : decode cX0_find 17 = .ok (.invokevirtual 25, 3) := by decide +kernel
theorem dX0_find_2 : decode cX0_find 2 = .ok (.putfield 15, 3) := by decide +kernel
theorem dX0_find_20 : decode cX0_find 20 = .ok (.ifCond .eq 43, 3) := by decide +kernel
theorem dX0_find_23 : decode cX0_find 23 = .ok (.aload_n 1, 1) := by decide +kernel
theorem dX0_find_24 : decode cX0_find 24 = .ok (.iload_n 2, 1) := by decide +kernel
theorem dX0_find_25 : decode cX0_find 25 = .ok (.invokestatic 29, 3) := by decide +kernel
theorem dX0_find_28 : decode cX0_find 28 = .ok (.ifCond .eq 35, 3) := by decide +kernel
theorem dX0_find_31 : decode cX0_find 31 = .ok (.aload_n 0, 1) := by decide +kernel
theorem dX0_find_32 : decode cX0_find 32 = .ok (.getfield 15, 3) := by decide +kernel
theorem dX0_find_35 : decode cX0_find 35 = .ok (.aload_n 0, 1) := by decide +kernel
theorem dX0_find_36 : decode cX0_find 36 = .ok (.getfield 11, 3) := by decide +kernel
theorem dX0_find_39 : decode cX0_find 39 = .ok (.arraylength, 1) := by decide +kernel
theorem dX0_find_40 : decode cX0_find 40 = .ok (.if_icmp .ge 23, 3) := by decide +kernel
theorem dX0_find_43 : decode cX0_find 43 = .ok (.aload_n 0, 1) := by decide +kernel
theorem dX0_find_44 : decode cX0_find 44 = .ok (.getfield 11, 3) := by decide +kernel
theorem dX0_find_47 : decode cX0_find 47 = .ok (.aload_n 0, 1) := by decide +kernel
theorem dX0_find_48 : decode cX0_find 48 = .ok (.getfield 15, 3) := by decide +kernel
theorem dX0_find_5 : decode cX0_find 5 = .ok (.iconst 0, 1) := by decide +kernel
theorem dX0_find_51 : decode cX0_find 51 = .ok (.iload_n 2, 1) := by decide +kernel
theorem dX0_find_52 : decode cX0_find 52 = .ok (.iastore, 1) := by decide +kernel
theorem dX0_find_53 : decode cX0_find 53 = .ok (.aload_n 0, 1) := by decide +kernel
theorem dX0_find_54 : decode cX0_find 54 = .ok (.dup, 1) := by decide +kernel
theorem dX0_find_55 : decode cX0_find 55 = .ok (.getfield 15, 3) := by decide +kernel
theorem dX0_find_58 : decode cX0_find 58 = .ok (.iconst 1, 1) := by decide +kernel
theorem dX0_find_59 : decode cX0_find 59 = .ok (.iadd, 1) := by decide +kernel
theorem dX0_find_6 : decode cX0_find 6 = .ok (.istore_n 2, 1) := by decide +kernel
theorem dX0_find_60 : decode cX0_find 60 = .ok (.putfield 15, 3) := by decide +kernel
theorem dX0_find_63 : decode cX0_find 63 = .ok (.iinc 2 1, 3) := by decide +kernel
theorem dX0_find_66 : decode cX0_find 66 = .ok (.goto (-59), 3) := by decide +kernel
theorem dX0_find_69 : decode cX0_find 69 = .ok (.return_, 1) := by decide +kernel
theorem dX0_find_7 : decode cX0_find 7 = .ok (.iload_n 2, 1) := by decide +kernel
theorem dX0_find_8 : decode cX0_find 8 = .ok (.aload_n 1, 1) := by decide +kernel
theorem dX0_find_9 : decode cX0_find 9 = .ok (.invokevirtual 19, 3) := by decide +kernel
def vX0_find : List Cond := .code yX0_find cX0_find 3 none :: ([.fieldLink RX0 15 "HookPier$Dark" "many" "I", .methodLink RX0 19 yX6_questionBound, .instanceMethod yX6_questionBound, .selects RX6 yX6_questionBound yX6_questionBound, .initialized RX6, .code yX6_questionBound cX6_questionBound 1 (some .int), .fieldLink RX6 9 "HookPier$Plan" "spots" "I", .methodLink RX0 25 yX6_hasQuestion, .instanceMethod yX6_hasQuestion, .selects RX6 yX6_hasQuestion yX6_hasQuestion, .code yX6_hasQuestion cX6_hasQuestion 2 (some .boolean), .code yX10_spotOf cX10_spotOf 1 (some .int), .initialized RX10, .static yX10_spotOf, .methodLink RX6 76 yX6_hasSpot, .instanceMethod yX6_hasSpot, .selects RX6 yX6_hasSpot yX6_hasSpot, .code yX6_hasSpot cX6_hasSpot 2 (some .boolean), .code yX10_within cX10_within 3 (some .boolean), .static yX10_within, .code yX10_fathomsOf cX10_fathomsOf 1 (some .int), .static yX10_fathomsOf, .fieldLink RX6 15 "HookPier$Plan" "deep" "I", .code yX10_baitOf cX10_baitOf 1 (some .int), .static yX10_baitOf, .methodLink RX6 86 yX6_hasBait, .instanceMethod yX6_hasBait, .selects RX6 yX6_hasBait yX6_hasBait, .code yX6_hasBait cX6_hasBait 2 (some .boolean), .fieldLink RX6 24 "HookPier$Plan" "baits" "I", .methodLink RX0 29 yX0_isAsTold, .static yX0_isAsTold, .initialized RX0, .code yX0_isAsTold cX0_isAsTold 3 (some .boolean), .fieldLink RX0 50 "HookPier$Plan" "bites" "I", .fieldLink RX0 37 "HookPier$Plan" "darkHunger" "I", .fieldLink RX0 53 "HookPier$Plan" "bite" "[I", .methodLink RX0 40 yX0_wouldBite, .static yX0_wouldBite, .code yX0_wouldBite cX0_wouldBite 4 (some .boolean), .methodLink RX0 67 Lib.Math.abs.name, .static Lib.Math.abs.name, .initialized "java/lang/Math", .code Lib.Math.abs.name Lib.Math.abs.code 1 (some .int), .fieldLink RX0 56 "HookPier$Plan" "bit" "[Z", .fieldLink RX0 11 "HookPier$Dark" "place" "[I"] ++ wsX00 ++ wsX60)
theorem iX0_find_X0 : ∀ w ∈ wsX00, w ∈ vX0_find := fun _ h => List.mem_cons_of_mem _ (List.mem_append_left _ (List.mem_append_right _ h))
theorem iX0_find_X6 : ∀ w ∈ wsX60, w ∈ vX0_find := fun _ h => List.mem_cons_of_mem _ (List.mem_append_right _ h)
set_option maxRecDepth 20000 in
theorem gX0_find_0 : GoodIn vX0_find (wsV RX0 19 RX6 yX6_questionBound vX6_questionBound) := goodIn_app (goodIn_r [.methodLink RX0 19 yX6_questionBound, .instanceMethod yX6_questionBound, .selects RX6 yX6_questionBound yX6_questionBound, .initialized RX6] [2, 3, 4, 5] (by decide +kernel) (by decide +kernel)) (goodIn_ca (goodIn_r (.code yX6_questionBound cX6_questionBound 1 (some .int) :: [.fieldLink RX6 9 "HookPier$Plan" "spots" "I"]) [6, 7] (by decide +kernel) (by decide +kernel) : GoodIn vX0_find (.code yX6_questionBound cX6_questionBound 1 (some .int) :: [.fieldLink RX6 9 "HookPier$Plan" "spots" "I"])) (goodIn_sub iX0_find_X6 (by decide +kernel)))
set_option maxRecDepth 20000 in
theorem gX0_find_1 : GoodIn vX0_find (wsV RX0 25 RX6 yX6_hasQuestion vX6_hasQuestion) := goodIn_app (goodIn_r [.methodLink RX0 25 yX6_hasQuestion, .instanceMethod yX6_hasQuestion, .selects RX6 yX6_hasQuestion yX6_hasQuestion, .initialized RX6] [8, 9, 10, 5] (by decide +kernel) (by decide +kernel)) (goodIn_ca (goodIn_r (.code yX6_hasQuestion cX6_hasQuestion 2 (some .boolean) :: [.code yX10_spotOf cX10_spotOf 1 (some .int), .initialized RX10, .static yX10_spotOf, .methodLink RX6 76 yX6_hasSpot, .instanceMethod yX6_hasSpot, .selects RX6 yX6_hasSpot yX6_hasSpot, .initialized RX6, .code yX6_hasSpot cX6_hasSpot 2 (some .boolean), .fieldLink RX6 9 "HookPier$Plan" "spots" "I", .code yX10_within cX10_within 3 (some .boolean), .static yX10_within, .code yX10_fathomsOf cX10_fathomsOf 1 (some .int), .static yX10_fathomsOf, .fieldLink RX6 15 "HookPier$Plan" "deep" "I", .code yX10_baitOf cX10_baitOf 1 (some .int), .static yX10_baitOf, .methodLink RX6 86 yX6_hasBait, .instanceMethod yX6_hasBait, .selects RX6 yX6_hasBait yX6_hasBait, .code yX6_hasBait cX6_hasBait 2 (some .boolean), .fieldLink RX6 24 "HookPier$Plan" "baits" "I"]) [11, 12, 13, 14, 15, 16, 17, 5, 18, 7, 19, 20, 21, 22, 23, 24, 25, 26, 27, 28, 29, 30] (by decide +kernel) (by decide +kernel) : GoodIn vX0_find (.code yX6_hasQuestion cX6_hasQuestion 2 (some .boolean) :: [.code yX10_spotOf cX10_spotOf 1 (some .int), .initialized RX10, .static yX10_spotOf, .methodLink RX6 76 yX6_hasSpot, .instanceMethod yX6_hasSpot, .selects RX6 yX6_hasSpot yX6_hasSpot, .initialized RX6, .code yX6_hasSpot cX6_hasSpot 2 (some .boolean), .fieldLink RX6 9 "HookPier$Plan" "spots" "I", .code yX10_within cX10_within 3 (some .boolean), .static yX10_within, .code yX10_fathomsOf cX10_fathomsOf 1 (some .int), .static yX10_fathomsOf, .fieldLink RX6 15 "HookPier$Plan" "deep" "I", .code yX10_baitOf cX10_baitOf 1 (some .int), .static yX10_baitOf, .methodLink RX6 86 yX6_hasBait, .instanceMethod yX6_hasBait, .selects RX6 yX6_hasBait yX6_hasBait, .code yX6_hasBait cX6_hasBait 2 (some .boolean), .fieldLink RX6 24 "HookPier$Plan" "baits" "I"])) (goodIn_sub iX0_find_X6 (by decide +kernel)))
set_option maxRecDepth 20000 in
theorem gX0_find_2 : GoodIn vX0_find (va_wsS RX0 29 yX0_isAsTold vX0_isAsTold) := goodIn_app (goodIn_r [.methodLink RX0 29 yX0_isAsTold, .static yX0_isAsTold, .initialized RX0] [31, 32, 33] (by decide +kernel) (by decide +kernel)) (goodIn_ca (goodIn_r (.code yX0_isAsTold cX0_isAsTold 3 (some .boolean) :: [.fieldLink RX0 50 "HookPier$Plan" "bites" "I", .fieldLink RX0 37 "HookPier$Plan" "darkHunger" "I", .fieldLink RX0 53 "HookPier$Plan" "bite" "[I", .methodLink RX0 40 yX0_wouldBite, .static yX0_wouldBite, .initialized RX0, .code yX0_wouldBite cX0_wouldBite 4 (some .boolean), .code yX10_baitOf cX10_baitOf 1 (some .int), .initialized RX10, .static yX10_baitOf, .code yX10_spotOf cX10_spotOf 1 (some .int), .static yX10_spotOf, .methodLink RX0 67 Lib.Math.abs.name, .static Lib.Math.abs.name, .initialized "java/lang/Math", .code Lib.Math.abs.name Lib.Math.abs.code 1 (some .int), .code yX10_fathomsOf cX10_fathomsOf 1 (some .int), .static yX10_fathomsOf, .fieldLink RX0 56 "HookPier$Plan" "bit" "[Z"]) [34, 35, 36, 37, 38, 39, 33, 40, 24, 13, 25, 12, 14, 41, 42, 43, 44, 21, 22, 45] (by decide +kernel) (by decide +kernel) : GoodIn vX0_find (.code yX0_isAsTold cX0_isAsTold 3 (some .boolean) :: [.fieldLink RX0 50 "HookPier$Plan" "bites" "I", .fieldLink RX0 37 "HookPier$Plan" "darkHunger" "I", .fieldLink RX0 53 "HookPier$Plan" "bite" "[I", .methodLink RX0 40 yX0_wouldBite, .static yX0_wouldBite, .initialized RX0, .code yX0_wouldBite cX0_wouldBite 4 (some .boolean), .code yX10_baitOf cX10_baitOf 1 (some .int), .initialized RX10, .static yX10_baitOf, .code yX10_spotOf cX10_spotOf 1 (some .int), .static yX10_spotOf, .methodLink RX0 67 Lib.Math.abs.name, .static Lib.Math.abs.name, .initialized "java/lang/Math", .code Lib.Math.abs.name Lib.Math.abs.code 1 (some .int), .code yX10_fathomsOf cX10_fathomsOf 1 (some .int), .static yX10_fathomsOf, .fieldLink RX0 56 "HookPier$Plan" "bit" "[Z"])) (goodIn_sub iX0_find_X6 (by decide +kernel)))
set_option maxHeartbeats 2000000 in
set_option maxRecDepth 100000 in
theorem kX0_find (l : Launch) (dC : Nat → ClassId) (dI : Nat → Nat → Nat) (a0 : Nat) (a1 : Nat) (a2 : Nat) (a3 : Nat) (a4 : Nat) (k5 : Int32) (k6 : Int32) (k7 : Int32) (g8 : Value) (g9 : Value) (k10 : Int32) (g11 : Value) (g12 : Value) (k13 : Int32) (k14 : Int32) (g15 : Value) (g16 : Value) (g17 : Value) (g18 : Value) (g19 : Value) (g20 : Value) (g21 : Value) (cB22 : ClassId) (f23 : Nat → Int32) (cB24 : ClassId) (f25 : Nat → Int32) (cB26 : ClassId) (f27 : Nat → Int32) (hk5 : (0 ≤ k5.toInt ∧ k5.toInt ≤ 288)) (hk6 : (0 ≤ k6.toInt ∧ k6.toInt ≤ 8)) (hk7 : (0 ≤ k7.toInt ∧ k7.toInt ≤ 9)) (hk10 : (0 ≤ k10.toInt ∧ k10.toInt ≤ 4)) (hk13 : (0 ≤ k13.toInt ∧ k13.toInt ≤ 6)) (hk14 : ((-1) ≤ k14.toInt ∧ k14.toInt ≤ 99)) (sz : Nat) : Met l yX0_find vX0_find ({ frames := 3, cells := 0, slots := 0, locals := 66 }) (PC (dC, dI) [.ref a0, .ref a1] sz [(a0, .inr (0, [.ref a2, .int k5])), (a1, .inr (4, [.int k6, .int k7, g8, g9, .int k10, g11, g12, .int k13, .int k14, g15, g16, g17, g18, g19, g20, g21, .ref a3, .ref a4])), (a2, .inl (cB22, 288, .inl f23)), (a3, .inl (cB24, 6, .inl f25)), (a4, .inl (cB26, 6, .inl f27))] [(cB22, .int), (cB24, .int), (cB26, .boolean)]) (va_Qv (S := Int32 × (Nat → Int32)) (fun u => (0 ≤ (u.1).toInt ∧ (u.1).toInt ≤ 288)) (fun u t => BC (dC, dI) (va_A [(a0, .inr (0, [.ref a2, .int k5])), (a1, .inr (4, [.int k6, .int k7, g8, g9, .int k10, g11, g12, .int k13, .int k14, g15, g16, g17, g18, g19, g20, g21, .ref a3, .ref a4])), (a2, .inl (cB22, 288, .inl f23)), (a3, .inl (cB24, 6, .inl f25)), (a4, .inl (cB26, 6, .inl f27))] sz) [(a0, .inr (0, [.ref a2, .int (u.1)])), (a1, .inr (4, [.int k6, .int k7, g8, g9, .int k10, g11, g12, .int k13, .int k14, g15, g16, g17, g18, g19, g20, g21, .ref a3, .ref a4])), (a2, .inl (cB22, 288, .inl (u.2))), (a3, .inl (cB24, 6, .inl f25)), (a4, .inl (cB26, 6, .inl f27))] [] t) (va_A [(a0, .inr (0, [.ref a2, .int k5])), (a1, .inr (4, [.int k6, .int k7, g8, g9, .int k10, g11, g12, .int k13, .int k14, g15, g16, g17, g18, g19, g20, g21, .ref a3, .ref a4])), (a2, .inl (cB22, 288, .inl f23)), (a3, .inl (cB24, 6, .inl f25)), (a4, .inl (cB26, 6, .inl f27))] sz)) 0 0 (va_A [(a0, .inr (0, [.ref a2, .int k5])), (a1, .inr (4, [.int k6, .int k7, g8, g9, .int k10, g11, g12, .int k13, .int k14, g15, g16, g17, g18, g19, g20, g21, .ref a3, .ref a4])), (a2, .inl (cB22, 288, .inl f23)), (a3, .inl (cB24, 6, .inl f25)), (a4, .inl (cB26, 6, .inl f27))] sz) := by
  refine Met.ofW (cc := cX0_find) (maxL := 3) (ret := none) (by decide) rfl ?_
  intro p e s m args below meth c s₁ B hml hv
  obtain ⟨rfl, hsz, hP, hK, hD0, hN⟩ := hv
  have hx := B.exec
  have hb := B.bytes
  have hr := B.returns
  have hts := atoms_spec (ws := vX0_find) B.pre
  have hown : s.vm.findClass RX0 = some m.cls := findClass_of_methodNamed B.named
  have hlocks := B.notSynchronized
  subst hsz
  have hD := hD0.self (sz := s.heap.size)
  generalize hAe : va_A [(a0, .inr (0, [.ref a2, .int k5])), (a1, .inr (4, [.int k6, .int k7, g8, g9, .int k10, g11, g12, .int k13, .int k14, g15, g16, g17, g18, g19, g20, g21, .ref a3, .ref a4])), (a2, .inl (cB22, 288, .inl f23)), (a3, .inl (cB24, 6, .inl f25)), (a4, .inl (cB26, 6, .inl f27))] s.heap.size = A at hD ⊢
  have hA : ∀ q : Nat, s.heap.size ≤ q → A q := fun q h => by rw [← hAe]; exact Or.inr h
  have hS : va_S A s.heap s.heap [] := va_S.rf
  have hP : va_P (dC, dI) vwCl [(a0, .inr (0, [.ref a2, .int k5])), (a1, .inr (4, [.int k6, .int k7, g8, g9, .int k10, g11, g12, .int k13, .int k14, g15, g16, g17, g18, g19, g20, g21, .ref a3, .ref a4])), (a2, .inl (cB22, 288, .inl f23)), (a3, .inl (cB24, 6, .inl f25)), (a4, .inl (cB26, 6, .inl f27))] s.heap := hP
  have hl := lv_entry ([.ref a0, .ref a1]) (n := 3) (Nat.le_of_ble_eq_true rfl)
  rw [lg_entry_eq]
  generalize (lg_sl ([.ref a0, .ref a1]) ++ List.replicate (3 - (lg_sl ([.ref a0, .ref a1])).length) Slot.unset).toArray = ls at hl ⊢
  have hl : lv_has ls 3 [(0, .ref a0), (1, .ref a1)] := hl
  refine lv_aload_n hx hb dX0_find_0 rfl (lv_at hl 0 rfl) ?_
  refine lv_iconst (v := 0) hx hb dX0_find_1 (by decide) ?_
  refine va_put (D := (dC, dI)) (ci := 0) (v := .int 0) (ty := .int) (C := RX0) (T := TX0) (N := 2) hx hb hts iX0_find_X0 tyX0 tyX0_ok nmX0 hown hK hP hD hS 0 rfl rfl 1 (by decide) (hts (.fieldLink RX0 15 "HookPier$Dark" "many" "I") (List.mem_of_getElem? (i := 1) rfl)) (fun _ h9 => h9) rfl (by decide +kernel) rfl rfl (Nat.le_of_ble_eq_true rfl) dX0_find_2 (fun H locs hP hD hS => ?_)
  have hP : va_P (dC, dI) vwCl [(a0, .inr (0, [.ref a2, .int 0])), (a1, .inr (4, [.int k6, .int k7, g8, g9, .int k10, g11, g12, .int k13, .int k14, g15, g16, g17, g18, g19, g20, g21, .ref a3, .ref a4])), (a2, .inl (cB22, 288, .inl f23)), (a3, .inl (cB24, 6, .inl f25)), (a4, .inl (cB26, 6, .inl f27))] H := hP
  have hD : va_D A [(a0, .inr (0, [.ref a2, .int 0])), (a1, .inr (4, [.int k6, .int k7, g8, g9, .int k10, g11, g12, .int k13, .int k14, g15, g16, g17, g18, g19, g20, g21, .ref a3, .ref a4])), (a2, .inl (cB22, 288, .inl f23)), (a3, .inl (cB24, 6, .inl f25)), (a4, .inl (cB26, 6, .inl f27))] := hD
  refine lv_iconst (v := 0) hx hb dX0_find_5 (by decide) ?_
  refine lv_istore_n (lv' := [(2, .int 0), (0, .ref a0), (1, .ref a1)]) hx hb dX0_find_6 rfl hl (by decide) rfl (fun ls hl => ?_)
  have L7_424 : ∀ (n : Nat) (z421 : Int32) (z422 : Int32) (f423 : Nat → Int32) (H : Heap) (locs : List Loc) (ls : Array Slot), (0 ≤ z421.toInt ∧ z421.toInt ≤ 800) → (0 ≤ z422.toInt ∧ z422.toInt ≤ 288) → 800 - z421.toInt < (n : Int) → va_P (dC, dI) vwCl [(a0, .inr (0, [.ref a2, .int z422])), (a1, .inr (4, [.int k6, .int k7, g8, g9, .int k10, g11, g12, .int k13, .int k14, g15, g16, g17, g18, g19, g20, g21, .ref a3, .ref a4])), (a2, .inl (cB22, 288, .inl f423)), (a3, .inl (cB24, 6, .inl f25)), (a4, .inl (cB26, 6, .inl f27))] H → va_D A [(a0, .inr (0, [.ref a2, .int z422])), (a1, .inr (4, [.int k6, .int k7, g8, g9, .int k10, g11, g12, .int k13, .int k14, g15, g16, g17, g18, g19, g20, g21, .ref a3, .ref a4])), (a2, .inl (cB22, 288, .inl f423)), (a3, .inl (cB24, 6, .inl f25)), (a4, .inl (cB26, 6, .inl f27))] → va_S A s.heap H locs → lv_has ls 3 [(2, .int z421), (0, .ref a0), (1, .ref a1)] → W p l e (headSpec vX0_find { frames := 3, cells := 0, slots := 0, locals := 66 }).room s m ([.ref a0, .ref a1]).toArray below meth c H locs 0 0 (MQ below (va_Qv (S := Int32 × (Nat → Int32)) (fun u => (0 ≤ (u.1).toInt ∧ (u.1).toInt ≤ 288)) (fun u t => BC (dC, dI) A [(a0, .inr (0, [.ref a2, .int (u.1)])), (a1, .inr (4, [.int k6, .int k7, g8, g9, .int k10, g11, g12, .int k13, .int k14, g15, g16, g17, g18, g19, g20, g21, .ref a3, .ref a4])), (a2, .inl (cB22, 288, .inl (u.2))), (a3, .inl (cB24, 6, .inl f25)), (a4, .inl (cB26, 6, .inl f27))] [] t) A) ([.ref a0, .ref a1]).toArray s 0 0 A) (F0 m 7 ls []) := by
    intro n
    induction n with
    | zero =>
      intro z421 z422 f423 H locs ls b7_0 b7_1 hm _ _ _ _
      exact absurd hm (by omega)
    | succ n ih7 =>
      intro z421 z422 f423 H locs ls b7_0 b7_1 hm7 hP hD hS hl
      refine lv_iload_n hx hb dX0_find_7 rfl (lv_at hl 0 rfl) ?_
      refine lv_aload_n hx hb dX0_find_8 rfl (lv_at hl 2 rfl) ?_
      refine cl_i (wc := [(a1, .inr (4, [.int k6, .int k7, g8, g9, .int k10, g11, g12, .int k13, .int k14, g15, g16, g17, g18, g19, g20, g21, .ref a3, .ref a4]))]) (wr := [(a0, .inr (0, [.ref a2, .int z422])), (a2, .inl (cB22, 288, .inl f423)), (a3, .inl (cB24, 6, .inl f25)), (a4, .inl (cB26, 6, .inl f27))]) (va_runV (As := []) (rest := [.int z421]) ⟨hx, hb, hml, hown, hts⟩ (kX6_questionBound l dC dI a1 k6 (.int k7) (g8) (g9) (.int k10) (g11) (g12) (.int k13) (.int k14) (g15) (g16) (g17) (g18) (g19) (g20) (g21) (.ref a3) (.ref a4) (by first | omega | (simp only [ltv_0]; omega)) H.size) (cwV 0 hts gX0_find_0 rfl rfl rfl (by decide +kernel) ⟨Nat.le_of_ble_eq_true rfl, Nat.le_of_ble_eq_true rfl⟩) (PV (hP.sub (ws' := [(a1, .inr (4, [.int k6, .int k7, g8, g9, .int k10, g11, g12, .int k13, .int k14, g15, g16, g17, g18, g19, g20, g21, .ref a3, .ref a4]))]) [1] rfl) (hK.sub (tys' := []) [] rfl) (hD.sub (ws' := [(a1, .inr (4, [.int k6, .int k7, g8, g9, .int k10, g11, g12, .int k13, .int k14, g15, g16, g17, g18, g19, g20, g21, .ref a3, .ref a4]))]) [1] (by decide) rfl) hN 0 rfl rfl) rfl rfl hl.1 rfl (lv_room (Nat.le_of_ble_eq_true rfl)) dX0_find_9 ⟨Nat.le_of_ble_eq_true rfl, Nat.le_of_ble_eq_true rfl⟩) hP hD hK hS hA [1] [0, 2, 3, 4] rfl rfl (by decide) (by decide) (fun z425 _u H locs hw hP hD hK hS => ?_)
      have b426 := hw
      have hP : va_P (dC, dI) vwCl [(a0, .inr (0, [.ref a2, .int z422])), (a2, .inl (cB22, 288, .inl f423)), (a3, .inl (cB24, 6, .inl f25)), (a4, .inl (cB26, 6, .inl f27)), (a1, .inr (4, [.int k6, .int k7, g8, g9, .int k10, g11, g12, .int k13, .int k14, g15, g16, g17, g18, g19, g20, g21, .ref a3, .ref a4]))] H := hP
      have hD : va_D A [(a0, .inr (0, [.ref a2, .int z422])), (a2, .inl (cB22, 288, .inl f423)), (a3, .inl (cB24, 6, .inl f25)), (a4, .inl (cB26, 6, .inl f27)), (a1, .inr (4, [.int k6, .int k7, g8, g9, .int k10, g11, g12, .int k13, .int k14, g15, g16, g17, g18, g19, g20, g21, .ref a3, .ref a4]))] := hD
      have hK : va_K (dC, dI) vwCl [(cB22, .int), (cB24, .int), (cB26, .boolean)] s := hK
      refine lv_icmp_ge (tgt := 69) hx hb dX0_find_12 (by decide) (fun c427 => ?_) (fun c427 => ?_)
      · simp only [fa_lt, fa_le, fa_eq, ltv_0] at c427
        have hP9 := hP.sub (ws' := [(a0, .inr (0, [.ref a2, .int z422])), (a1, .inr (4, [.int k6, .int k7, g8, g9, .int k10, g11, g12, .int k13, .int k14, g15, g16, g17, g18, g19, g20, g21, .ref a3, .ref a4])), (a2, .inl (cB22, 288, .inl f423)), (a3, .inl (cB24, 6, .inl f25)), (a4, .inl (cB26, 6, .inl f27))]) [0, 4, 1, 2, 3] rfl
        have hD9 := hD.sub (ws' := [(a0, .inr (0, [.ref a2, .int z422])), (a1, .inr (4, [.int k6, .int k7, g8, g9, .int k10, g11, g12, .int k13, .int k14, g15, g16, g17, g18, g19, g20, g21, .ref a3, .ref a4])), (a2, .inl (cB22, 288, .inl f423)), (a3, .inl (cB24, 6, .inl f25)), (a4, .inl (cB26, 6, .inl f27))]) [0, 4, 1, 2, 3] (by decide) rfl
        have hK9 := hK.sub (tys' := []) [] rfl
        exact W.vret hx hb hr (fun t ht hW => ⟨⟨(z422, f423), rfl, (by first | trivial | omega | (simp only [ltv_0]; omega)), by rw [ht]; exact hP9, va_K.moved hW.alike hK9, hD9⟩, hS.F ht⟩) hS.2.2 dX0_find_69
      · simp only [fa_lt, fa_le, fa_eq, ltv_0] at c427
        refine lv_aload_n hx hb dX0_find_15 rfl (lv_at hl 2 rfl) ?_
        refine lv_iload_n hx hb dX0_find_16 rfl (lv_at hl 0 rfl) ?_
        refine cl_i (wc := [(a1, .inr (4, [.int k6, .int k7, g8, g9, .int k10, g11, g12, .int k13, .int k14, g15, g16, g17, g18, g19, g20, g21, .ref a3, .ref a4]))]) (wr := [(a0, .inr (0, [.ref a2, .int z422])), (a2, .inl (cB22, 288, .inl f423)), (a3, .inl (cB24, 6, .inl f25)), (a4, .inl (cB26, 6, .inl f27))]) (va_runV (As := [.int z421]) (rest := []) ⟨hx, hb, hml, hown, hts⟩ (kX6_hasQuestion l dC dI a1 z421 k6 k7 (g8) (g9) k10 (g11) (g12) (.int k13) (.int k14) (g15) (g16) (g17) (g18) (g19) (g20) (g21) (.ref a3) (.ref a4) (by first | omega | (simp only [ltv_0]; omega)) (by first | omega | (simp only [ltv_0]; omega)) (by first | omega | (simp only [ltv_0]; omega)) H.size) (cwV 1 hts gX0_find_1 rfl rfl rfl (by decide +kernel) ⟨Nat.le_of_ble_eq_true rfl, Nat.le_of_ble_eq_true rfl⟩) (PV (hP.sub (ws' := [(a1, .inr (4, [.int k6, .int k7, g8, g9, .int k10, g11, g12, .int k13, .int k14, g15, g16, g17, g18, g19, g20, g21, .ref a3, .ref a4]))]) [4] rfl) (hK.sub (tys' := []) [] rfl) (hD.sub (ws' := [(a1, .inr (4, [.int k6, .int k7, g8, g9, .int k10, g11, g12, .int k13, .int k14, g15, g16, g17, g18, g19, g20, g21, .ref a3, .ref a4]))]) [4] (by decide) rfl) hN 0 rfl rfl) rfl rfl hl.1 rfl (lv_room (Nat.le_of_ble_eq_true rfl)) dX0_find_17 ⟨Nat.le_of_ble_eq_true rfl, Nat.le_of_ble_eq_true rfl⟩) hP hD hK hS hA [4] [0, 1, 2, 3] rfl rfl (by decide) (by decide) (fun z428 _u H locs hw hP hD hK hS => ?_)
        have b429 := hw
        have hP : va_P (dC, dI) vwCl [(a0, .inr (0, [.ref a2, .int z422])), (a2, .inl (cB22, 288, .inl f423)), (a3, .inl (cB24, 6, .inl f25)), (a4, .inl (cB26, 6, .inl f27)), (a1, .inr (4, [.int k6, .int k7, g8, g9, .int k10, g11, g12, .int k13, .int k14, g15, g16, g17, g18, g19, g20, g21, .ref a3, .ref a4]))] H := hP
        have hD : va_D A [(a0, .inr (0, [.ref a2, .int z422])), (a2, .inl (cB22, 288, .inl f423)), (a3, .inl (cB24, 6, .inl f25)), (a4, .inl (cB26, 6, .inl f27)), (a1, .inr (4, [.int k6, .int k7, g8, g9, .int k10, g11, g12, .int k13, .int k14, g15, g16, g17, g18, g19, g20, g21, .ref a3, .ref a4]))] := hD
        have hK : va_K (dC, dI) vwCl [(cB22, .int), (cB24, .int), (cB26, .boolean)] s := hK
        refine lv_if_eq (tgt := 63) hx hb dX0_find_20 (by decide) (fun c430 => ?_) (fun c430 => ?_)
        · simp only [fa_lt, fa_le, fa_eq, ltv_0] at c430
          obtain ⟨z431, ez431⟩ : ∃ y : Int32, y = z421 + 1 := ⟨_, rfl⟩
          have tz431 : z431.toInt = z421.toInt + 1 := by rw [ez431, iadd_t (by simp only [ltv_1]; omega) (by simp only [ltv_1]; omega)]; simp only [ltv_1]
          refine lv_iinc (v := z431) (lv' := [(2, .int z431), (0, .ref a0), (1, .ref a1)]) hx hb dX0_find_63 hl (k := 0) rfl (by rw [ez431]; rfl) (by decide) rfl (fun ls hl => ?_)
          refine lv_goto (tgt := 7) hx hb dX0_find_66 (by decide) ?_
          exact ih7 z431 z422 f423 H locs ls (by first | omega | (simp only [ltv_0]; omega)) (by first | omega | (simp only [ltv_0]; omega)) (by first | omega | (simp only [ltv_0]; omega)) (hP.sub (ws' := [(a0, .inr (0, [.ref a2, .int z422])), (a1, .inr (4, [.int k6, .int k7, g8, g9, .int k10, g11, g12, .int k13, .int k14, g15, g16, g17, g18, g19, g20, g21, .ref a3, .ref a4])), (a2, .inl (cB22, 288, .inl f423)), (a3, .inl (cB24, 6, .inl f25)), (a4, .inl (cB26, 6, .inl f27))]) [0, 4, 1, 2, 3] rfl) (hD.sub (ws' := [(a0, .inr (0, [.ref a2, .int z422])), (a1, .inr (4, [.int k6, .int k7, g8, g9, .int k10, g11, g12, .int k13, .int k14, g15, g16, g17, g18, g19, g20, g21, .ref a3, .ref a4])), (a2, .inl (cB22, 288, .inl f423)), (a3, .inl (cB24, 6, .inl f25)), (a4, .inl (cB26, 6, .inl f27))]) [0, 4, 1, 2, 3] (by decide) rfl) hS (lv_sub hl [0, 1, 2] rfl)
        · simp only [fa_lt, fa_le, fa_eq, ltv_0] at c430
          refine lv_aload_n hx hb dX0_find_23 rfl (lv_at hl 2 rfl) ?_
          refine lv_iload_n hx hb dX0_find_24 rfl (lv_at hl 0 rfl) ?_
          refine cl_i (wc := [(a1, .inr (4, [.int k6, .int k7, g8, g9, .int k10, g11, g12, .int k13, .int k14, g15, g16, g17, g18, g19, g20, g21, .ref a3, .ref a4])), (a3, .inl (cB24, 6, .inl f25)), (a4, .inl (cB26, 6, .inl f27))]) (wr := [(a0, .inr (0, [.ref a2, .int z422])), (a2, .inl (cB22, 288, .inl f423))]) (va_runS (As := [.ref a1, .int z421]) (rest := []) ⟨hx, hb, hml, hown, hts⟩ (kX0_isAsTold l dC dI a1 z421 a3 a4 (.int k6) (.int k7) (g8) (g9) (.int k10) (g11) (g12) k13 k14 (g15) (g16) (g17) (g18) (g19) (g20) (g21) cB24 f25 cB26 f27 (by first | omega | (simp only [ltv_0]; omega)) (by first | omega | (simp only [ltv_0]; omega)) H.size) (va_cwS 2 hts gX0_find_2 rfl rfl rfl (by decide +kernel) ⟨Nat.le_of_ble_eq_true rfl, Nat.le_of_ble_eq_true rfl⟩) (PS (hP.sub (ws' := [(a1, .inr (4, [.int k6, .int k7, g8, g9, .int k10, g11, g12, .int k13, .int k14, g15, g16, g17, g18, g19, g20, g21, .ref a3, .ref a4])), (a3, .inl (cB24, 6, .inl f25)), (a4, .inl (cB26, 6, .inl f27))]) [4, 2, 3] rfl) (hK.sub (tys' := [(cB24, .int), (cB26, .boolean)]) [1, 2] rfl) (hD.sub (ws' := [(a1, .inr (4, [.int k6, .int k7, g8, g9, .int k10, g11, g12, .int k13, .int k14, g15, g16, g17, g18, g19, g20, g21, .ref a3, .ref a4])), (a3, .inl (cB24, 6, .inl f25)), (a4, .inl (cB26, 6, .inl f27))]) [4, 2, 3] (by decide) rfl) hN) rfl rfl hl.1 rfl (lv_room (Nat.le_of_ble_eq_true rfl)) dX0_find_25 ⟨Nat.le_of_ble_eq_true rfl, Nat.le_of_ble_eq_true rfl⟩) hP hD hK hS hA [4, 2, 3] [0, 1] rfl rfl (by decide) (by decide) (fun z432 _u H locs hw hP hD hK hS => ?_)
          have b433 := hw
          have hP : va_P (dC, dI) vwCl [(a0, .inr (0, [.ref a2, .int z422])), (a2, .inl (cB22, 288, .inl f423)), (a1, .inr (4, [.int k6, .int k7, g8, g9, .int k10, g11, g12, .int k13, .int k14, g15, g16, g17, g18, g19, g20, g21, .ref a3, .ref a4])), (a3, .inl (cB24, 6, .inl f25)), (a4, .inl (cB26, 6, .inl f27))] H := hP
          have hD : va_D A [(a0, .inr (0, [.ref a2, .int z422])), (a2, .inl (cB22, 288, .inl f423)), (a1, .inr (4, [.int k6, .int k7, g8, g9, .int k10, g11, g12, .int k13, .int k14, g15, g16, g17, g18, g19, g20, g21, .ref a3, .ref a4])), (a3, .inl (cB24, 6, .inl f25)), (a4, .inl (cB26, 6, .inl f27))] := hD
          have hK : va_K (dC, dI) vwCl [(cB22, .int), (cB24, .int), (cB26, .boolean)] s := hK
          refine lv_if_eq (tgt := 63) hx hb dX0_find_28 (by decide) (fun c434 => ?_) (fun c434 => ?_)
          · simp only [fa_lt, fa_le, fa_eq, ltv_0] at c434
            obtain ⟨z435, ez435⟩ : ∃ y : Int32, y = z421 + 1 := ⟨_, rfl⟩
            have tz435 : z435.toInt = z421.toInt + 1 := by rw [ez435, iadd_t (by simp only [ltv_1]; omega) (by simp only [ltv_1]; omega)]; simp only [ltv_1]
            refine lv_iinc (v := z435) (lv' := [(2, .int z435), (0, .ref a0), (1, .ref a1)]) hx hb dX0_find_63 hl (k := 0) rfl (by rw [ez435]; rfl) (by decide) rfl (fun ls hl => ?_)
            refine lv_goto (tgt := 7) hx hb dX0_find_66 (by decide) ?_
            exact ih7 z435 z422 f423 H locs ls (by first | omega | (simp only [ltv_0]; omega)) (by first | omega | (simp only [ltv_0]; omega)) (by first | omega | (simp only [ltv_0]; omega)) (hP.sub (ws' := [(a0, .inr (0, [.ref a2, .int z422])), (a1, .inr (4, [.int k6, .int k7, g8, g9, .int k10, g11, g12, .int k13, .int k14, g15, g16, g17, g18, g19, g20, g21, .ref a3, .ref a4])), (a2, .inl (cB22, 288, .inl f423)), (a3, .inl (cB24, 6, .inl f25)), (a4, .inl (cB26, 6, .inl f27))]) [0, 2, 1, 3, 4] rfl) (hD.sub (ws' := [(a0, .inr (0, [.ref a2, .int z422])), (a1, .inr (4, [.int k6, .int k7, g8, g9, .int k10, g11, g12, .int k13, .int k14, g15, g16, g17, g18, g19, g20, g21, .ref a3, .ref a4])), (a2, .inl (cB22, 288, .inl f423)), (a3, .inl (cB24, 6, .inl f25)), (a4, .inl (cB26, 6, .inl f27))]) [0, 2, 1, 3, 4] (by decide) rfl) hS (lv_sub hl [0, 1, 2] rfl)
          · simp only [fa_lt, fa_le, fa_eq, ltv_0] at c434
            refine lv_aload_n hx hb dX0_find_31 rfl (lv_at hl 1 rfl) ?_
            refine va_get (D := (dC, dI)) (ci := 0) (v := .int z422) (C := RX0) (T := TX0) (N := 2) hx hb hts iX0_find_X0 hown hK hP 0 rfl rfl 1 (by decide) (hts (.fieldLink RX0 15 "HookPier$Dark" "many" "I") (List.mem_of_getElem? (i := 1) rfl)) (fun _ h9 => h9) rfl dX0_find_32 ?_
            refine lv_aload_n hx hb dX0_find_35 rfl (lv_at hl 1 rfl) ?_
            refine va_get (D := (dC, dI)) (ci := 0) (v := .ref a2) (C := RX0) (T := TX0) (N := 2) hx hb hts iX0_find_X0 hown hK hP 0 rfl rfl 0 (by decide) (hts (.fieldLink RX0 11 "HookPier$Dark" "place" "[I") (List.mem_of_getElem? (i := 46) rfl)) (fun _ h9 => h9) rfl dX0_find_36 ?_
            refine va_alen (v := 288) hx hb hK hP 1 0 rfl rfl rfl dX0_find_39 ?_
            refine lv_icmp_ge (tgt := 63) hx hb dX0_find_40 (by decide) (fun c436 => ?_) (fun c436 => ?_)
            · simp only [fa_lt, fa_le, fa_eq, ltv_0, ltv_288] at c436
              obtain ⟨z437, ez437⟩ : ∃ y : Int32, y = z421 + 1 := ⟨_, rfl⟩
              have tz437 : z437.toInt = z421.toInt + 1 := by rw [ez437, iadd_t (by simp only [ltv_1]; omega) (by simp only [ltv_1]; omega)]; simp only [ltv_1]
              refine lv_iinc (v := z437) (lv' := [(2, .int z437), (0, .ref a0), (1, .ref a1)]) hx hb dX0_find_63 hl (k := 0) rfl (by rw [ez437]; rfl) (by decide) rfl (fun ls hl => ?_)
              refine lv_goto (tgt := 7) hx hb dX0_find_66 (by decide) ?_
              exact ih7 z437 z422 f423 H locs ls (by first | omega | (simp only [ltv_0]; omega)) (by first | omega | (simp only [ltv_0]; omega)) (by first | omega | (simp only [ltv_0]; omega)) (hP.sub (ws' := [(a0, .inr (0, [.ref a2, .int z422])), (a1, .inr (4, [.int k6, .int k7, g8, g9, .int k10, g11, g12, .int k13, .int k14, g15, g16, g17, g18, g19, g20, g21, .ref a3, .ref a4])), (a2, .inl (cB22, 288, .inl f423)), (a3, .inl (cB24, 6, .inl f25)), (a4, .inl (cB26, 6, .inl f27))]) [0, 2, 1, 3, 4] rfl) (hD.sub (ws' := [(a0, .inr (0, [.ref a2, .int z422])), (a1, .inr (4, [.int k6, .int k7, g8, g9, .int k10, g11, g12, .int k13, .int k14, g15, g16, g17, g18, g19, g20, g21, .ref a3, .ref a4])), (a2, .inl (cB22, 288, .inl f423)), (a3, .inl (cB24, 6, .inl f25)), (a4, .inl (cB26, 6, .inl f27))]) [0, 2, 1, 3, 4] (by decide) rfl) hS (lv_sub hl [0, 1, 2] rfl)
            · simp only [fa_lt, fa_le, fa_eq, ltv_0, ltv_288] at c436
              refine lv_aload_n hx hb dX0_find_43 rfl (lv_at hl 1 rfl) ?_
              refine va_get (D := (dC, dI)) (ci := 0) (v := .ref a2) (C := RX0) (T := TX0) (N := 2) hx hb hts iX0_find_X0 hown hK hP 0 rfl rfl 0 (by decide) (hts (.fieldLink RX0 11 "HookPier$Dark" "place" "[I") (List.mem_of_getElem? (i := 46) rfl)) (fun _ h9 => h9) rfl dX0_find_44 ?_
              refine lv_aload_n hx hb dX0_find_47 rfl (lv_at hl 1 rfl) ?_
              refine va_get (D := (dC, dI)) (ci := 0) (v := .int z422) (C := RX0) (T := TX0) (N := 2) hx hb hts iX0_find_X0 hown hK hP 0 rfl rfl 1 (by decide) (hts (.fieldLink RX0 15 "HookPier$Dark" "many" "I") (List.mem_of_getElem? (i := 1) rfl)) (fun _ h9 => h9) rfl dX0_find_48 ?_
              refine lv_iload_n hx hb dX0_find_51 rfl (lv_at hl 0 rfl) ?_
              refine va_iast hx hb hK hP hD hS 1 0 rfl rfl (vp_in_iff.mpr (by omega)) dX0_find_52 (fun H locs hP hD hS => ?_)
              have hP : va_P (dC, dI) vwCl [(a0, .inr (0, [.ref a2, .int z422])), (a2, .inl (cB22, 288, .inl (upd f423 (z422 : Int32).toNatClampNeg z421))), (a1, .inr (4, [.int k6, .int k7, g8, g9, .int k10, g11, g12, .int k13, .int k14, g15, g16, g17, g18, g19, g20, g21, .ref a3, .ref a4])), (a3, .inl (cB24, 6, .inl f25)), (a4, .inl (cB26, 6, .inl f27))] H := hP
              have hD : va_D A [(a0, .inr (0, [.ref a2, .int z422])), (a2, .inl (cB22, 288, .inl (upd f423 (z422 : Int32).toNatClampNeg z421))), (a1, .inr (4, [.int k6, .int k7, g8, g9, .int k10, g11, g12, .int k13, .int k14, g15, g16, g17, g18, g19, g20, g21, .ref a3, .ref a4])), (a3, .inl (cB24, 6, .inl f25)), (a4, .inl (cB26, 6, .inl f27))] := hD
              generalize upd f423 (z422 : Int32).toNatClampNeg z421 = f438 at hP hD
              refine lv_aload_n hx hb dX0_find_53 rfl (lv_at hl 1 rfl) ?_
              refine lv_dup hx hb dX0_find_54 rfl ?_
              refine va_get (D := (dC, dI)) (ci := 0) (v := .int z422) (C := RX0) (T := TX0) (N := 2) hx hb hts iX0_find_X0 hown hK hP 0 rfl rfl 1 (by decide) (hts (.fieldLink RX0 15 "HookPier$Dark" "many" "I") (List.mem_of_getElem? (i := 1) rfl)) (fun _ h9 => h9) rfl dX0_find_55 ?_
              refine lv_iconst (v := 1) hx hb dX0_find_58 (by decide) ?_
              refine lv_iadd hx hb dX0_find_59 ?_
              refine lv_topi (fun z439 ez439 => ?_)
              have tz439 : z439.toInt = z422.toInt + 1 := by rw [ez439]; rw [iadd_t (by first | omega | (simp only [ltv_0, ltv_1]; omega)) (by first | omega | (simp only [ltv_0, ltv_1]; omega))]; first | done | (simp only [ltv_0, ltv_1])
              refine va_put (D := (dC, dI)) (ci := 0) (v := .int z439) (ty := .int) (C := RX0) (T := TX0) (N := 2) hx hb hts iX0_find_X0 tyX0 tyX0_ok nmX0 hown hK hP hD hS 0 rfl rfl 1 (by decide) (hts (.fieldLink RX0 15 "HookPier$Dark" "many" "I") (List.mem_of_getElem? (i := 1) rfl)) (fun _ h9 => h9) rfl (by decide +kernel) rfl rfl (Nat.le_of_ble_eq_true rfl) dX0_find_60 (fun H locs hP hD hS => ?_)
              have hP : va_P (dC, dI) vwCl [(a0, .inr (0, [.ref a2, .int z439])), (a2, .inl (cB22, 288, .inl f438)), (a1, .inr (4, [.int k6, .int k7, g8, g9, .int k10, g11, g12, .int k13, .int k14, g15, g16, g17, g18, g19, g20, g21, .ref a3, .ref a4])), (a3, .inl (cB24, 6, .inl f25)), (a4, .inl (cB26, 6, .inl f27))] H := hP
              have hD : va_D A [(a0, .inr (0, [.ref a2, .int z439])), (a2, .inl (cB22, 288, .inl f438)), (a1, .inr (4, [.int k6, .int k7, g8, g9, .int k10, g11, g12, .int k13, .int k14, g15, g16, g17, g18, g19, g20, g21, .ref a3, .ref a4])), (a3, .inl (cB24, 6, .inl f25)), (a4, .inl (cB26, 6, .inl f27))] := hD
              obtain ⟨z440, ez440⟩ : ∃ y : Int32, y = z421 + 1 := ⟨_, rfl⟩
              have tz440 : z440.toInt = z421.toInt + 1 := by rw [ez440, iadd_t (by simp only [ltv_1]; omega) (by simp only [ltv_1]; omega)]; simp only [ltv_1]
              refine lv_iinc (v := z440) (lv' := [(2, .int z440), (0, .ref a0), (1, .ref a1)]) hx hb dX0_find_63 hl (k := 0) rfl (by rw [ez440]; rfl) (by decide) rfl (fun ls hl => ?_)
              refine lv_goto (tgt := 7) hx hb dX0_find_66 (by decide) ?_
              exact ih7 z440 z439 f438 H locs ls (by first | omega | (simp only [ltv_0]; omega)) (by first | omega | (simp only [ltv_0]; omega)) (by first | omega | (simp only [ltv_0]; omega)) (hP.sub (ws' := [(a0, .inr (0, [.ref a2, .int z439])), (a1, .inr (4, [.int k6, .int k7, g8, g9, .int k10, g11, g12, .int k13, .int k14, g15, g16, g17, g18, g19, g20, g21, .ref a3, .ref a4])), (a2, .inl (cB22, 288, .inl f438)), (a3, .inl (cB24, 6, .inl f25)), (a4, .inl (cB26, 6, .inl f27))]) [0, 2, 1, 3, 4] rfl) (hD.sub (ws' := [(a0, .inr (0, [.ref a2, .int z439])), (a1, .inr (4, [.int k6, .int k7, g8, g9, .int k10, g11, g12, .int k13, .int k14, g15, g16, g17, g18, g19, g20, g21, .ref a3, .ref a4])), (a2, .inl (cB22, 288, .inl f438)), (a3, .inl (cB24, 6, .inl f25)), (a4, .inl (cB26, 6, .inl f27))]) [0, 2, 1, 3, 4] (by decide) rfl) hS (lv_sub hl [0, 1, 2] rfl)
  exact L7_424 801 (0) (0) f23 H _ ls (by first | omega | (simp only [ltv_0]; omega)) (by first | omega | (simp only [ltv_0]; omega)) (by first | omega | (simp only [ltv_0]; omega)) hP hD hS (lv_sub hl [0, 1, 2] rfl)
theorem dX0_leftAtMost_0 : decode cX0_leftAtMost 0 = .ok (.iconst 0, 1) := by decide +kernel
theorem dX0_leftAtMost_1 : decode cX0_leftAtMost 1 = .ok (.istore_n 3, 1) := by decide +kernel
theorem dX0_leftAtMost_11 : decode cX0_leftAtMost 11 = .ok (.if_icmp .ge 30, 3) := by decide +kernel
theorem dX0_leftAtMost_14 : decode cX0_leftAtMost 14 = .ok (.aload_n 1, 1) := by decide +kernel
theorem dX0_leftAtMost_15 : decode cX0_leftAtMost 15 = .ok (.getfield 37, 3) := by decide +kernel
theorem dX0_leftAtMost_18 : decode cX0_leftAtMost 18 = .ok (.aload_n 0, 1) := by decide +kernel
theorem dX0_leftAtMost_19 : decode cX0_leftAtMost 19 = .ok (.getfield 11, 3) := by decide +kernel
theorem dX0_leftAtMost_2 : decode cX0_leftAtMost 2 = .ok (.iconst 0, 1) := by decide +kernel
theorem dX0_leftAtMost_22 : decode cX0_leftAtMost 22 = .ok (.iload 4, 2) := by decide +kernel
theorem dX0_leftAtMost_24 : decode cX0_leftAtMost 24 = .ok (.iaload, 1) := by decide +kernel
theorem dX0_leftAtMost_25 : decode cX0_leftAtMost 25 = .ok (.iload_n 2, 1) := by decide +kernel
theorem dX0_leftAtMost_26 : decode cX0_leftAtMost 26 = .ok (.invokestatic 40, 3) := by decide +kernel
theorem dX0_leftAtMost_29 : decode cX0_leftAtMost 29 = .ok (.ifCond .eq 6, 3) := by decide +kernel
theorem dX0_leftAtMost_3 : decode cX0_leftAtMost 3 = .ok (.istore 4, 2) := by decide +kernel
theorem dX0_leftAtMost_32 : decode cX0_leftAtMost 32 = .ok (.iinc 3 1, 3) := by decide +kernel
theorem dX0_leftAtMost_35 : decode cX0_leftAtMost 35 = .ok (.iinc 4 1, 3) := by decide +kernel
theorem dX0_leftAtMost_38 : decode cX0_leftAtMost 38 = .ok (.goto (-33), 3) := by decide +kernel
theorem dX0_leftAtMost_41 : decode cX0_leftAtMost 41 = .ok (.iload_n 3, 1) := by decide +kernel
theorem dX0_leftAtMost_42 : decode cX0_leftAtMost 42 = .ok (.aload_n 0, 1) := by decide +kernel
theorem dX0_leftAtMost_43 : decode cX0_leftAtMost 43 = .ok (.getfield 15, 3) := by decide +kernel
theorem dX0_leftAtMost_46 : decode cX0_leftAtMost 46 = .ok (.iload_n 3, 1) := by decide +kernel
theorem dX0_leftAtMost_47 : decode cX0_leftAtMost 47 = .ok (.isub, 1) := by decide +kernel
theorem dX0_leftAtMost_48 : decode cX0_leftAtMost 48 = .ok (.invokestatic 44, 3) := by decide +kernel
theorem dX0_leftAtMost_5 : decode cX0_leftAtMost 5 = .ok (.iload 4, 2) := by decide +kernel
theorem dX0_leftAtMost_51 : decode cX0_leftAtMost 51 = .ok (.ireturn, 1) := by decide +kernel
theorem dX0_leftAtMost_7 : decode cX0_leftAtMost 7 = .ok (.aload_n 0, 1) := by decide +kernel
theorem dX0_leftAtMost_8 : decode cX0_leftAtMost 8 = .ok (.getfield 15, 3) := by decide +kernel
def vX0_leftAtMost : List Cond := .code yX0_leftAtMost cX0_leftAtMost 5 (some .int) :: ([.fieldLink RX0 15 "HookPier$Dark" "many" "I", .methodLink RX0 44 Lib.Math.max.name, .static Lib.Math.max.name, .initialized "java/lang/Math", .code Lib.Math.max.name Lib.Math.max.code 2 (some .int), .fieldLink RX0 37 "HookPier$Plan" "darkHunger" "I", .fieldLink RX0 11 "HookPier$Dark" "place" "[I", .methodLink RX0 40 yX0_wouldBite, .static yX0_wouldBite, .initialized RX0, .code yX0_wouldBite cX0_wouldBite 4 (some .boolean), .code yX10_baitOf cX10_baitOf 1 (some .int), .initialized RX10, .static yX10_baitOf, .code yX10_spotOf cX10_spotOf 1 (some .int), .static yX10_spotOf, .methodLink RX0 67 Lib.Math.abs.name, .static Lib.Math.abs.name, .code Lib.Math.abs.name Lib.Math.abs.code 1 (some .int), .code yX10_fathomsOf cX10_fathomsOf 1 (some .int), .static yX10_fathomsOf] ++ wsX00 ++ wsX60)
theorem iX0_leftAtMost_X0 : ∀ w ∈ wsX00, w ∈ vX0_leftAtMost := fun _ h => List.mem_cons_of_mem _ (List.mem_append_left _ (List.mem_append_right _ h))
theorem iX0_leftAtMost_X6 : ∀ w ∈ wsX60, w ∈ vX0_leftAtMost := fun _ h => List.mem_cons_of_mem _ (List.mem_append_right _ h)
set_option maxRecDepth 20000 in
theorem gX0_leftAtMost_0 : GoodIn vX0_leftAtMost (va_wsS RX0 40 yX0_wouldBite vX0_wouldBite) := goodIn_app (goodIn_r [.methodLink RX0 40 yX0_wouldBite, .static yX0_wouldBite, .initialized RX0] [8, 9, 10] (by decide +kernel) (by decide +kernel)) (goodIn_r (.code yX0_wouldBite cX0_wouldBite 4 (some .boolean) :: [.code yX10_baitOf cX10_baitOf 1 (some .int), .initialized RX10, .static yX10_baitOf, .code yX10_spotOf cX10_spotOf 1 (some .int), .static yX10_spotOf, .methodLink RX0 67 Lib.Math.abs.name, .static Lib.Math.abs.name, .initialized "java/lang/Math", .code Lib.Math.abs.name Lib.Math.abs.code 1 (some .int), .code yX10_fathomsOf cX10_fathomsOf 1 (some .int), .static yX10_fathomsOf]) [11, 12, 13, 14, 15, 16, 17, 18, 4, 19, 20, 21] (by decide +kernel) (by decide +kernel) : GoodIn vX0_leftAtMost (.code yX0_wouldBite cX0_wouldBite 4 (some .boolean) :: [.code yX10_baitOf cX10_baitOf 1 (some .int), .initialized RX10, .static yX10_baitOf, .code yX10_spotOf cX10_spotOf 1 (some .int), .static yX10_spotOf, .methodLink RX0 67 Lib.Math.abs.name, .static Lib.Math.abs.name, .initialized "java/lang/Math", .code Lib.Math.abs.name Lib.Math.abs.code 1 (some .int), .code yX10_fathomsOf cX10_fathomsOf 1 (some .int), .static yX10_fathomsOf]))
set_option maxHeartbeats 2000000 in
set_option maxRecDepth 100000 in
theorem kX0_leftAtMost (l : Launch) (dC : Nat → ClassId) (dI : Nat → Nat → Nat) (a0 : Nat) (a1 : Nat) (k2 : Int32) (a3 : Nat) (k4 : Int32) (g5 : Value) (g6 : Value) (g7 : Value) (g8 : Value) (g9 : Value) (g10 : Value) (g11 : Value) (g12 : Value) (k13 : Int32) (g14 : Value) (g15 : Value) (g16 : Value) (g17 : Value) (g18 : Value) (g19 : Value) (g20 : Value) (g21 : Value) (g22 : Value) (cB23 : ClassId) (f24 : Nat → Int32) (hk4 : (0 ≤ k4.toInt ∧ k4.toInt ≤ 288)) (hk13 : ((-1) ≤ k13.toInt ∧ k13.toInt ≤ 99)) (sz : Nat) : Met l yX0_leftAtMost vX0_leftAtMost ({ frames := 2, cells := 0, slots := 0, locals := 44 }) (PC (dC, dI) [.ref a0, .ref a1, .int k2] sz [(a0, .inr (0, [.ref a3, .int k4])), (a1, .inr (4, [g5, g6, g7, g8, g9, g10, g11, g12, .int k13, g14, g15, g16, g17, g18, g19, g20, g21, g22])), (a3, .inl (cB23, 288, .inl f24))] [(cB23, .int)]) (va_Qi (S := Unit) (fun (r : Int32) _ => True) (fun _ t => BC (dC, dI) (va_A [(a0, .inr (0, [.ref a3, .int k4])), (a1, .inr (4, [g5, g6, g7, g8, g9, g10, g11, g12, .int k13, g14, g15, g16, g17, g18, g19, g20, g21, g22])), (a3, .inl (cB23, 288, .inl f24))] sz) [(a0, .inr (0, [.ref a3, .int k4])), (a1, .inr (4, [g5, g6, g7, g8, g9, g10, g11, g12, .int k13, g14, g15, g16, g17, g18, g19, g20, g21, g22])), (a3, .inl (cB23, 288, .inl f24))] [] t) (va_A [(a0, .inr (0, [.ref a3, .int k4])), (a1, .inr (4, [g5, g6, g7, g8, g9, g10, g11, g12, .int k13, g14, g15, g16, g17, g18, g19, g20, g21, g22])), (a3, .inl (cB23, 288, .inl f24))] sz)) 0 0 (va_A [(a0, .inr (0, [.ref a3, .int k4])), (a1, .inr (4, [g5, g6, g7, g8, g9, g10, g11, g12, .int k13, g14, g15, g16, g17, g18, g19, g20, g21, g22])), (a3, .inl (cB23, 288, .inl f24))] sz) := by
  refine Met.ofW (cc := cX0_leftAtMost) (maxL := 5) (ret := (some .int)) (by decide) rfl ?_
  intro p e s m args below meth c s₁ B hml hv
  obtain ⟨rfl, hsz, hP, hK, hD0, hN⟩ := hv
  have hx := B.exec
  have hb := B.bytes
  have hr := B.returns
  have hts := atoms_spec (ws := vX0_leftAtMost) B.pre
  have hown : s.vm.findClass RX0 = some m.cls := findClass_of_methodNamed B.named
  have hlocks := B.notSynchronized
  subst hsz
  have hD := hD0.self (sz := s.heap.size)
  generalize hAe : va_A [(a0, .inr (0, [.ref a3, .int k4])), (a1, .inr (4, [g5, g6, g7, g8, g9, g10, g11, g12, .int k13, g14, g15, g16, g17, g18, g19, g20, g21, g22])), (a3, .inl (cB23, 288, .inl f24))] s.heap.size = A at hD ⊢
  have hA : ∀ q : Nat, s.heap.size ≤ q → A q := fun q h => by rw [← hAe]; exact Or.inr h
  have hS : va_S A s.heap s.heap [] := va_S.rf
  have hP : va_P (dC, dI) vwCl [(a0, .inr (0, [.ref a3, .int k4])), (a1, .inr (4, [g5, g6, g7, g8, g9, g10, g11, g12, .int k13, g14, g15, g16, g17, g18, g19, g20, g21, g22])), (a3, .inl (cB23, 288, .inl f24))] s.heap := hP
  have hl := lv_entry ([.ref a0, .ref a1, .int k2]) (n := 5) (Nat.le_of_ble_eq_true rfl)
  rw [lg_entry_eq]
  generalize (lg_sl ([.ref a0, .ref a1, .int k2]) ++ List.replicate (5 - (lg_sl ([.ref a0, .ref a1, .int k2])).length) Slot.unset).toArray = ls at hl ⊢
  have hl : lv_has ls 5 [(0, .ref a0), (1, .ref a1), (2, .int k2)] := hl
  refine lv_iconst (v := 0) hx hb dX0_leftAtMost_0 (by decide) ?_
  refine lv_istore_n (lv' := [(3, .int 0), (0, .ref a0), (1, .ref a1), (2, .int k2)]) hx hb dX0_leftAtMost_1 rfl hl (by decide) rfl (fun ls hl => ?_)
  refine lv_iconst (v := 0) hx hb dX0_leftAtMost_2 (by decide) ?_
  refine lv_istore (lv' := [(4, .int 0), (3, .int 0), (0, .ref a0), (1, .ref a1), (2, .int k2)]) hx hb dX0_leftAtMost_3 hl (by decide) rfl (fun ls hl => ?_)
  have L5_387 : ∀ (n : Nat) (z385 : Int32) (z386 : Int32) (H : Heap) (locs : List Loc) (ls : Array Slot), (0 ≤ z385.toInt ∧ z385.toInt ≤ 288) → 288 - z385.toInt < (n : Int) → va_P (dC, dI) vwCl [(a0, .inr (0, [.ref a3, .int k4])), (a1, .inr (4, [g5, g6, g7, g8, g9, g10, g11, g12, .int k13, g14, g15, g16, g17, g18, g19, g20, g21, g22])), (a3, .inl (cB23, 288, .inl f24))] H → va_D A [(a0, .inr (0, [.ref a3, .int k4])), (a1, .inr (4, [g5, g6, g7, g8, g9, g10, g11, g12, .int k13, g14, g15, g16, g17, g18, g19, g20, g21, g22])), (a3, .inl (cB23, 288, .inl f24))] → va_S A s.heap H locs → lv_has ls 5 [(4, .int z385), (3, .int z386), (0, .ref a0), (1, .ref a1), (2, .int k2)] → W p l e (headSpec vX0_leftAtMost { frames := 2, cells := 0, slots := 0, locals := 44 }).room s m ([.ref a0, .ref a1, .int k2]).toArray below meth c H locs 0 0 (MQ below (va_Qi (S := Unit) (fun (r : Int32) _ => True) (fun _ t => BC (dC, dI) A [(a0, .inr (0, [.ref a3, .int k4])), (a1, .inr (4, [g5, g6, g7, g8, g9, g10, g11, g12, .int k13, g14, g15, g16, g17, g18, g19, g20, g21, g22])), (a3, .inl (cB23, 288, .inl f24))] [] t) A) ([.ref a0, .ref a1, .int k2]).toArray s 0 0 A) (F0 m 5 ls []) := by
    intro n
    induction n with
    | zero =>
      intro z385 z386 H locs ls b5_0 hm _ _ _ _
      exact absurd hm (by omega)
    | succ n ih5 =>
      intro z385 z386 H locs ls b5_0 hm5 hP hD hS hl
      refine lv_iload hx hb dX0_leftAtMost_5 (lv_at hl 0 rfl) ?_
      refine lv_aload_n hx hb dX0_leftAtMost_7 rfl (lv_at hl 2 rfl) ?_
      refine va_get (D := (dC, dI)) (ci := 0) (v := .int k4) (C := RX0) (T := TX0) (N := 2) hx hb hts iX0_leftAtMost_X0 hown hK hP 0 rfl rfl 1 (by decide) (hts (.fieldLink RX0 15 "HookPier$Dark" "many" "I") (List.mem_of_getElem? (i := 1) rfl)) (fun _ h9 => h9) rfl dX0_leftAtMost_8 ?_
      refine lv_icmp_ge (tgt := 41) hx hb dX0_leftAtMost_11 (by decide) (fun c388 => ?_) (fun c388 => ?_)
      · simp only [fa_lt, fa_le, fa_eq, ltv_0] at c388
        refine lv_iload_n hx hb dX0_leftAtMost_41 rfl (lv_at hl 1 rfl) ?_
        refine lv_aload_n hx hb dX0_leftAtMost_42 rfl (lv_at hl 2 rfl) ?_
        refine va_get (D := (dC, dI)) (ci := 0) (v := .int k4) (C := RX0) (T := TX0) (N := 2) hx hb hts iX0_leftAtMost_X0 hown hK hP 0 rfl rfl 1 (by decide) (hts (.fieldLink RX0 15 "HookPier$Dark" "many" "I") (List.mem_of_getElem? (i := 1) rfl)) (fun _ h9 => h9) rfl dX0_leftAtMost_43 ?_
        refine lv_iload_n hx hb dX0_leftAtMost_46 rfl (lv_at hl 1 rfl) ?_
        refine lv_isub hx hb dX0_leftAtMost_47 ?_
        refine lv_topi (fun z389 ez389 => ?_)
        clear ez389
        refine va_mmax hx hb (by rw [hml]; exact hl.1.symm) hown (hts (.methodLink RX0 44 Lib.Math.max.name) (List.mem_of_getElem? (i := 2) rfl)) (hts (.static Lib.Math.max.name) (List.mem_of_getElem? (i := 3) rfl)) (hts (.initialized "java/lang/Math") (List.mem_of_getElem? (i := 4) rfl)) (hts (.code Lib.Math.max.name Lib.Math.max.code 2 (some .int)) (List.mem_of_getElem? (i := 5) rfl)) (Nat.le_of_ble_eq_true rfl) (Nat.le_of_ble_eq_true rfl) (Nat.le_of_ble_eq_true rfl) (Nat.le_of_ble_eq_true rfl) dX0_leftAtMost_48 ?_
        refine lv_topi (fun z390 ez390 => ?_)
        clear ez390
        have hP9 := hP.sub (ws' := [(a0, .inr (0, [.ref a3, .int k4])), (a1, .inr (4, [g5, g6, g7, g8, g9, g10, g11, g12, .int k13, g14, g15, g16, g17, g18, g19, g20, g21, g22])), (a3, .inl (cB23, 288, .inl f24))]) [0, 1, 2] rfl
        have hD9 := hD.sub (ws' := [(a0, .inr (0, [.ref a3, .int k4])), (a1, .inr (4, [g5, g6, g7, g8, g9, g10, g11, g12, .int k13, g14, g15, g16, g17, g18, g19, g20, g21, g22])), (a3, .inl (cB23, 288, .inl f24))]) [0, 1, 2] (by decide) rfl
        have hK9 := hK.sub (tys' := []) [] rfl
        exact W.iret (v := z390) hx hb hr (fun t ht hW => ⟨⟨z390, (), rfl, trivial, by rw [ht]; exact hP9, va_K.moved hW.alike hK9, hD9⟩, hS.F ht⟩) hS.2.2 dX0_leftAtMost_51
      · simp only [fa_lt, fa_le, fa_eq, ltv_0] at c388
        refine lv_aload_n hx hb dX0_leftAtMost_14 rfl (lv_at hl 3 rfl) ?_
        refine va_get (D := (dC, dI)) (ci := 4) (v := .int k13) (C := RX6) (T := TX6) (N := 18) hx hb hts iX0_leftAtMost_X6 hown hK hP 1 rfl rfl 8 (by decide) (hts (.fieldLink RX0 37 "HookPier$Plan" "darkHunger" "I") (List.mem_of_getElem? (i := 6) rfl)) (fun _ h9 => h9) rfl dX0_leftAtMost_15 ?_
        refine lv_aload_n hx hb dX0_leftAtMost_18 rfl (lv_at hl 2 rfl) ?_
        refine va_get (D := (dC, dI)) (ci := 0) (v := .ref a3) (C := RX0) (T := TX0) (N := 2) hx hb hts iX0_leftAtMost_X0 hown hK hP 0 rfl rfl 0 (by decide) (hts (.fieldLink RX0 11 "HookPier$Dark" "place" "[I") (List.mem_of_getElem? (i := 7) rfl)) (fun _ h9 => h9) rfl dX0_leftAtMost_19 ?_
        refine lv_iload hx hb dX0_leftAtMost_22 (lv_at hl 0 rfl) ?_
        refine va_iald hx hb hK hP 2 0 rfl rfl (vp_in_iff.mpr (by omega)) dX0_leftAtMost_24 ?_
        refine lv_topi (fun z391 ez391 => ?_)
        clear ez391
        refine lv_iload_n hx hb dX0_leftAtMost_25 rfl (lv_at hl 4 rfl) ?_
        refine cl_i (wc := []) (wr := [(a0, .inr (0, [.ref a3, .int k4])), (a1, .inr (4, [g5, g6, g7, g8, g9, g10, g11, g12, .int k13, g14, g15, g16, g17, g18, g19, g20, g21, g22])), (a3, .inl (cB23, 288, .inl f24))]) (va_runS (As := [.int k13, .int z391, .int k2]) (rest := []) ⟨hx, hb, hml, hown, hts⟩ (kX0_wouldBite l dC dI k13 z391 k2  H.size) (va_cwS 3 hts gX0_leftAtMost_0 rfl rfl rfl (by decide +kernel) ⟨Nat.le_of_ble_eq_true rfl, Nat.le_of_ble_eq_true rfl⟩) (PS (hP.sub (ws' := []) [] rfl) (hK.sub (tys' := []) [] rfl) (hD.sub (ws' := []) [] (by decide) rfl) hN) rfl rfl hl.1 rfl (lv_room (Nat.le_of_ble_eq_true rfl)) dX0_leftAtMost_26 ⟨Nat.le_of_ble_eq_true rfl, Nat.le_of_ble_eq_true rfl⟩) hP hD hK hS hA [] [0, 1, 2] rfl rfl (by decide) (by decide) (fun z392 _u H locs hw hP hD hK hS => ?_)
        have b393 := hw
        have hP : va_P (dC, dI) vwCl [(a0, .inr (0, [.ref a3, .int k4])), (a1, .inr (4, [g5, g6, g7, g8, g9, g10, g11, g12, .int k13, g14, g15, g16, g17, g18, g19, g20, g21, g22])), (a3, .inl (cB23, 288, .inl f24))] H := hP
        have hD : va_D A [(a0, .inr (0, [.ref a3, .int k4])), (a1, .inr (4, [g5, g6, g7, g8, g9, g10, g11, g12, .int k13, g14, g15, g16, g17, g18, g19, g20, g21, g22])), (a3, .inl (cB23, 288, .inl f24))] := hD
        have hK : va_K (dC, dI) vwCl [(cB23, .int)] s := hK
        refine lv_if_eq (tgt := 35) hx hb dX0_leftAtMost_29 (by decide) (fun c394 => ?_) (fun c394 => ?_)
        · simp only [fa_lt, fa_le, fa_eq, ltv_0] at c394
          obtain ⟨z395, ez395⟩ : ∃ y : Int32, y = z385 + 1 := ⟨_, rfl⟩
          have tz395 : z395.toInt = z385.toInt + 1 := by rw [ez395, iadd_t (by simp only [ltv_1]; omega) (by simp only [ltv_1]; omega)]; simp only [ltv_1]
          refine lv_iinc (v := z395) (lv' := [(4, .int z395), (3, .int z386), (0, .ref a0), (1, .ref a1), (2, .int k2)]) hx hb dX0_leftAtMost_35 hl (k := 0) rfl (by rw [ez395]; rfl) (by decide) rfl (fun ls hl => ?_)
          refine lv_goto (tgt := 5) hx hb dX0_leftAtMost_38 (by decide) ?_
          exact ih5 z395 z386 H locs ls (by first | omega | (simp only [ltv_0]; omega)) (by first | omega | (simp only [ltv_0]; omega)) hP hD hS (lv_sub hl [0, 1, 2, 3, 4] rfl)
        · simp only [fa_lt, fa_le, fa_eq, ltv_0] at c394
          obtain ⟨z396, ez396⟩ : ∃ y : Int32, y = z386 + 1 := ⟨_, rfl⟩
          refine lv_iinc (v := z396) (lv' := [(3, .int z396), (4, .int z385), (0, .ref a0), (1, .ref a1), (2, .int k2)]) hx hb dX0_leftAtMost_32 hl (k := 1) rfl (by rw [ez396]; rfl) (by decide) rfl (fun ls hl => ?_)
          obtain ⟨z397, ez397⟩ : ∃ y : Int32, y = z385 + 1 := ⟨_, rfl⟩
          have tz397 : z397.toInt = z385.toInt + 1 := by rw [ez397, iadd_t (by simp only [ltv_1]; omega) (by simp only [ltv_1]; omega)]; simp only [ltv_1]
          refine lv_iinc (v := z397) (lv' := [(4, .int z397), (3, .int z396), (0, .ref a0), (1, .ref a1), (2, .int k2)]) hx hb dX0_leftAtMost_35 hl (k := 1) rfl (by rw [ez397]; rfl) (by decide) rfl (fun ls hl => ?_)
          refine lv_goto (tgt := 5) hx hb dX0_leftAtMost_38 (by decide) ?_
          exact ih5 z397 z396 H locs ls (by first | omega | (simp only [ltv_0]; omega)) (by first | omega | (simp only [ltv_0]; omega)) hP hD hS (lv_sub hl [0, 1, 2, 3, 4] rfl)
  exact L5_387 289 (0) (0) s.heap _ ls (by first | omega | (simp only [ltv_0]; omega)) (by first | omega | (simp only [ltv_0]; omega)) hP hD hS (lv_sub hl [0, 1, 2, 3, 4] rfl)
theorem dX0_tellingQuestion_0 : decode cX0_tellingQuestion 0 = .ok (.bipush (-2), 2) := by decide +kernel
theorem dX0_tellingQuestion_11 : decode cX0_tellingQuestion 11 = .ok (.iload 4, 2) := by decide +kernel
theorem dX0_tellingQuestion_13 : decode cX0_tellingQuestion 13 = .ok (.aload_n 1, 1) := by decide +kernel
theorem dX0_tellingQuestion_14 : decode cX0_tellingQuestion 14 = .ok (.invokevirtual 19, 3) := by decide +kernel
theorem dX0_tellingQuestion_17 : decode cX0_tellingQuestion 17 = .ok (.if_icmp .ge 52, 3) := by decide +kernel
theorem dX0_tellingQuestion_2 : decode cX0_tellingQuestion 2 = .ok (.istore_n 2, 1) := by decide +kernel
theorem dX0_tellingQuestion_20 : decode cX0_tellingQuestion 20 = .ok (.aload_n 0, 1) := by decide +kernel
theorem dX0_tellingQuestion_21 : decode cX0_tellingQuestion 21 = .ok (.getfield 15, 3) := by decide +kernel
theorem dX0_tellingQuestion_24 : decode cX0_tellingQuestion 24 = .ok (.ifCond .le 45, 3) := by decide +kernel
theorem dX0_tellingQuestion_27 : decode cX0_tellingQuestion 27 = .ok (.aload_n 1, 1) := by decide +kernel
theorem dX0_tellingQuestion_28 : decode cX0_tellingQuestion 28 = .ok (.iload 4, 2) := by decide +kernel
theorem dX0_tellingQuestion_3 : decode cX0_tellingQuestion 3 = .ok (.aload_n 0, 1) := by decide +kernel
theorem dX0_tellingQuestion_30 : decode cX0_tellingQuestion 30 = .ok (.invokevirtual 25, 3) := by decide +kernel
theorem dX0_tellingQuestion_33 : decode cX0_tellingQuestion 33 = .ok (.ifCond .eq 30, 3) := by decide +kernel
theorem dX0_tellingQuestion_36 : decode cX0_tellingQuestion 36 = .ok (.aload_n 0, 1) := by decide +kernel
theorem dX0_tellingQuestion_37 : decode cX0_tellingQuestion 37 = .ok (.aload_n 1, 1) := by decide +kernel
theorem dX0_tellingQuestion_38 : decode cX0_tellingQuestion 38 = .ok (.iload 4, 2) := by decide +kernel
theorem dX0_tellingQuestion_4 : decode cX0_tellingQuestion 4 = .ok (.getfield 15, 3) := by decide +kernel
theorem dX0_tellingQuestion_40 : decode cX0_tellingQuestion 40 = .ok (.invokevirtual 33, 3) := by decide +kernel
theorem dX0_tellingQuestion_43 : decode cX0_tellingQuestion 43 = .ok (.istore 5, 2) := by decide +kernel
theorem dX0_tellingQuestion_45 : decode cX0_tellingQuestion 45 = .ok (.iload_n 2, 1) := by decide +kernel
theorem dX0_tellingQuestion_46 : decode cX0_tellingQuestion 46 = .ok (.bipush (-2), 2) := by decide +kernel
theorem dX0_tellingQuestion_48 : decode cX0_tellingQuestion 48 = .ok (.if_icmp .eq 9, 3) := by decide +kernel
theorem dX0_tellingQuestion_51 : decode cX0_tellingQuestion 51 = .ok (.iload 5, 2) := by decide +kernel
theorem dX0_tellingQuestion_53 : decode cX0_tellingQuestion 53 = .ok (.iload_n 3, 1) := by decide +kernel
theorem dX0_tellingQuestion_54 : decode cX0_tellingQuestion 54 = .ok (.if_icmp .ge 9, 3) := by decide +kernel
theorem dX0_tellingQuestion_57 : decode cX0_tellingQuestion 57 = .ok (.iload 5, 2) := by decide +kernel
theorem dX0_tellingQuestion_59 : decode cX0_tellingQuestion 59 = .ok (.istore_n 3, 1) := by decide +kernel
theorem dX0_tellingQuestion_60 : decode cX0_tellingQuestion 60 = .ok (.iload 4, 2) := by decide +kernel
theorem dX0_tellingQuestion_62 : decode cX0_tellingQuestion 62 = .ok (.istore_n 2, 1) := by decide +kernel
theorem dX0_tellingQuestion_63 : decode cX0_tellingQuestion 63 = .ok (.iinc 4 1, 3) := by decide +kernel
theorem dX0_tellingQuestion_66 : decode cX0_tellingQuestion 66 = .ok (.goto (-55), 3) := by decide +kernel
theorem dX0_tellingQuestion_69 : decode cX0_tellingQuestion 69 = .ok (.iload_n 2, 1) := by decide +kernel
theorem dX0_tellingQuestion_7 : decode cX0_tellingQuestion 7 = .ok (.istore_n 3, 1) := by decide +kernel
theorem dX0_tellingQuestion_70 : decode cX0_tellingQuestion 70 = .ok (.ireturn, 1) := by decide +kernel
theorem dX0_tellingQuestion_8 : decode cX0_tellingQuestion 8 = .ok (.iconst 0, 1) := by decide +kernel
theorem dX0_tellingQuestion_9 : decode cX0_tellingQuestion 9 = .ok (.istore 4, 2) := by decide +kernel
def vX0_tellingQuestion : List Cond := .code yX0_tellingQuestion cX0_tellingQuestion 6 (some .int) :: ([.fieldLink RX0 15 "HookPier$Dark" "many" "I", .methodLink RX0 19 yX6_questionBound, .instanceMethod yX6_questionBound, .selects RX6 yX6_questionBound yX6_questionBound, .initialized RX6, .code yX6_questionBound cX6_questionBound 1 (some .int), .fieldLink RX6 9 "HookPier$Plan" "spots" "I", .methodLink RX0 25 yX6_hasQuestion, .instanceMethod yX6_hasQuestion, .selects RX6 yX6_hasQuestion yX6_hasQuestion, .code yX6_hasQuestion cX6_hasQuestion 2 (some .boolean), .code yX10_spotOf cX10_spotOf 1 (some .int), .initialized RX10, .static yX10_spotOf, .methodLink RX6 76 yX6_hasSpot, .instanceMethod yX6_hasSpot, .selects RX6 yX6_hasSpot yX6_hasSpot, .code yX6_hasSpot cX6_hasSpot 2 (some .boolean), .code yX10_within cX10_within 3 (some .boolean), .static yX10_within, .code yX10_fathomsOf cX10_fathomsOf 1 (some .int), .static yX10_fathomsOf, .fieldLink RX6 15 "HookPier$Plan" "deep" "I", .code yX10_baitOf cX10_baitOf 1 (some .int), .static yX10_baitOf, .methodLink RX6 86 yX6_hasBait, .instanceMethod yX6_hasBait, .selects RX6 yX6_hasBait yX6_hasBait, .code yX6_hasBait cX6_hasBait 2 (some .boolean), .fieldLink RX6 24 "HookPier$Plan" "baits" "I", .methodLink RX0 33 yX0_leftAtMost, .instanceMethod yX0_leftAtMost, .selects RX0 yX0_leftAtMost yX0_leftAtMost, .initialized RX0, .code yX0_leftAtMost cX0_leftAtMost 5 (some .int), .methodLink RX0 44 Lib.Math.max.name, .static Lib.Math.max.name, .initialized "java/lang/Math", .code Lib.Math.max.name Lib.Math.max.code 2 (some .int), .fieldLink RX0 37 "HookPier$Plan" "darkHunger" "I", .fieldLink RX0 11 "HookPier$Dark" "place" "[I", .methodLink RX0 40 yX0_wouldBite, .static yX0_wouldBite, .code yX0_wouldBite cX0_wouldBite 4 (some .boolean), .methodLink RX0 67 Lib.Math.abs.name, .static Lib.Math.abs.name, .code Lib.Math.abs.name Lib.Math.abs.code 1 (some .int)] ++ wsX00 ++ wsX60)
theorem iX0_tellingQuestion_X0 : ∀ w ∈ wsX00, w ∈ vX0_tellingQuestion := fun _ h => List.mem_cons_of_mem _ (List.mem_append_left _ (List.mem_append_right _ h))
theorem iX0_tellingQuestion_X6 : ∀ w ∈ wsX60, w ∈ vX0_tellingQuestion := fun _ h => List.mem_cons_of_mem _ (List.mem_append_right _ h)
set_option maxRecDepth 20000 in
theorem gX0_tellingQuestion_0 : GoodIn vX0_tellingQuestion (wsV RX0 19 RX6 yX6_questionBound vX6_questionBound) := goodIn_app (goodIn_r [.methodLink RX0 19 yX6_questionBound, .instanceMethod yX6_questionBound, .selects RX6 yX6_questionBound yX6_questionBound, .initialized RX6] [2, 3, 4, 5] (by decide +kernel) (by decide +kernel)) (goodIn_ca (goodIn_r (.code yX6_questionBound cX6_questionBound 1 (some .int) :: [.fieldLink RX6 9 "HookPier$Plan" "spots" "I"]) [6, 7] (by decide +kernel) (by decide +kernel) : GoodIn vX0_tellingQuestion (.code yX6_questionBound cX6_questionBound 1 (some .int) :: [.fieldLink RX6 9 "HookPier$Plan" "spots" "I"])) (goodIn_sub iX0_tellingQuestion_X6 (by decide +kernel)))
set_option maxRecDepth 20000 in
theorem gX0_tellingQuestion_1 : GoodIn vX0_tellingQuestion (wsV RX0 25 RX6 yX6_hasQuestion vX6_hasQuestion) := goodIn_app (goodIn_r [.methodLink RX0 25 yX6_hasQuestion, .instanceMethod yX6_hasQuestion, .selects RX6 yX6_hasQuestion yX6_hasQuestion, .initialized RX6] [8, 9, 10, 5] (by decide +kernel) (by decide +kernel)) (goodIn_ca (goodIn_r (.code yX6_hasQuestion cX6_hasQuestion 2 (some .boolean) :: [.code yX10_spotOf cX10_spotOf 1 (some .int), .initialized RX10, .static yX10_spotOf, .methodLink RX6 76 yX6_hasSpot, .instanceMethod yX6_hasSpot, .selects RX6 yX6_hasSpot yX6_hasSpot, .initialized RX6, .code yX6_hasSpot cX6_hasSpot 2 (some .boolean), .fieldLink RX6 9 "HookPier$Plan" "spots" "I", .code yX10_within cX10_within 3 (some .boolean), .static yX10_within, .code yX10_fathomsOf cX10_fathomsOf 1 (some .int), .static yX10_fathomsOf, .fieldLink RX6 15 "HookPier$Plan" "deep" "I", .code yX10_baitOf cX10_baitOf 1 (some .int), .static yX10_baitOf, .methodLink RX6 86 yX6_hasBait, .instanceMethod yX6_hasBait, .selects RX6 yX6_hasBait yX6_hasBait, .code yX6_hasBait cX6_hasBait 2 (some .boolean), .fieldLink RX6 24 "HookPier$Plan" "baits" "I"]) [11, 12, 13, 14, 15, 16, 17, 5, 18, 7, 19, 20, 21, 22, 23, 24, 25, 26, 27, 28, 29, 30] (by decide +kernel) (by decide +kernel) : GoodIn vX0_tellingQuestion (.code yX6_hasQuestion cX6_hasQuestion 2 (some .boolean) :: [.code yX10_spotOf cX10_spotOf 1 (some .int), .initialized RX10, .static yX10_spotOf, .methodLink RX6 76 yX6_hasSpot, .instanceMethod yX6_hasSpot, .selects RX6 yX6_hasSpot yX6_hasSpot, .initialized RX6, .code yX6_hasSpot cX6_hasSpot 2 (some .boolean), .fieldLink RX6 9 "HookPier$Plan" "spots" "I", .code yX10_within cX10_within 3 (some .boolean), .static yX10_within, .code yX10_fathomsOf cX10_fathomsOf 1 (some .int), .static yX10_fathomsOf, .fieldLink RX6 15 "HookPier$Plan" "deep" "I", .code yX10_baitOf cX10_baitOf 1 (some .int), .static yX10_baitOf, .methodLink RX6 86 yX6_hasBait, .instanceMethod yX6_hasBait, .selects RX6 yX6_hasBait yX6_hasBait, .code yX6_hasBait cX6_hasBait 2 (some .boolean), .fieldLink RX6 24 "HookPier$Plan" "baits" "I"])) (goodIn_sub iX0_tellingQuestion_X6 (by decide +kernel)))
set_option maxRecDepth 20000 in
theorem gX0_tellingQuestion_2 : GoodIn vX0_tellingQuestion (wsV RX0 33 RX0 yX0_leftAtMost vX0_leftAtMost) := goodIn_app (goodIn_r [.methodLink RX0 33 yX0_leftAtMost, .instanceMethod yX0_leftAtMost, .selects RX0 yX0_leftAtMost yX0_leftAtMost, .initialized RX0] [31, 32, 33, 34] (by decide +kernel) (by decide +kernel)) (goodIn_ca (goodIn_ca (goodIn_r (.code yX0_leftAtMost cX0_leftAtMost 5 (some .int) :: [.fieldLink RX0 15 "HookPier$Dark" "many" "I", .methodLink RX0 44 Lib.Math.max.name, .static Lib.Math.max.name, .initialized "java/lang/Math", .code Lib.Math.max.name Lib.Math.max.code 2 (some .int), .fieldLink RX0 37 "HookPier$Plan" "darkHunger" "I", .fieldLink RX0 11 "HookPier$Dark" "place" "[I", .methodLink RX0 40 yX0_wouldBite, .static yX0_wouldBite, .initialized RX0, .code yX0_wouldBite cX0_wouldBite 4 (some .boolean), .code yX10_baitOf cX10_baitOf 1 (some .int), .initialized RX10, .static yX10_baitOf, .code yX10_spotOf cX10_spotOf 1 (some .int), .static yX10_spotOf, .methodLink RX0 67 Lib.Math.abs.name, .static Lib.Math.abs.name, .code Lib.Math.abs.name Lib.Math.abs.code 1 (some .int), .code yX10_fathomsOf cX10_fathomsOf 1 (some .int), .static yX10_fathomsOf]) [35, 1, 36, 37, 38, 39, 40, 41, 42, 43, 34, 44, 24, 13, 25, 12, 14, 45, 46, 47, 21, 22] (by decide +kernel) (by decide +kernel) : GoodIn vX0_tellingQuestion (.code yX0_leftAtMost cX0_leftAtMost 5 (some .int) :: [.fieldLink RX0 15 "HookPier$Dark" "many" "I", .methodLink RX0 44 Lib.Math.max.name, .static Lib.Math.max.name, .initialized "java/lang/Math", .code Lib.Math.max.name Lib.Math.max.code 2 (some .int), .fieldLink RX0 37 "HookPier$Plan" "darkHunger" "I", .fieldLink RX0 11 "HookPier$Dark" "place" "[I", .methodLink RX0 40 yX0_wouldBite, .static yX0_wouldBite, .initialized RX0, .code yX0_wouldBite cX0_wouldBite 4 (some .boolean), .code yX10_baitOf cX10_baitOf 1 (some .int), .initialized RX10, .static yX10_baitOf, .code yX10_spotOf cX10_spotOf 1 (some .int), .static yX10_spotOf, .methodLink RX0 67 Lib.Math.abs.name, .static Lib.Math.abs.name, .code Lib.Math.abs.name Lib.Math.abs.code 1 (some .int), .code yX10_fathomsOf cX10_fathomsOf 1 (some .int), .static yX10_fathomsOf])) (goodIn_sub iX0_tellingQuestion_X0 (by decide +kernel))) (goodIn_sub iX0_tellingQuestion_X6 (by decide +kernel)))
set_option maxHeartbeats 2000000 in
set_option maxRecDepth 100000 in
theorem kX0_tellingQuestion (l : Launch) (dC : Nat → ClassId) (dI : Nat → Nat → Nat) (a0 : Nat) (a1 : Nat) (a2 : Nat) (k3 : Int32) (k4 : Int32) (k5 : Int32) (g6 : Value) (g7 : Value) (k8 : Int32) (g9 : Value) (g10 : Value) (g11 : Value) (k12 : Int32) (g13 : Value) (g14 : Value) (g15 : Value) (g16 : Value) (g17 : Value) (g18 : Value) (g19 : Value) (g20 : Value) (g21 : Value) (cB22 : ClassId) (f23 : Nat → Int32) (hk3 : (0 ≤ k3.toInt ∧ k3.toInt ≤ 288)) (hk4 : (0 ≤ k4.toInt ∧ k4.toInt ≤ 8)) (hk5 : (0 ≤ k5.toInt ∧ k5.toInt ≤ 9)) (hk8 : (0 ≤ k8.toInt ∧ k8.toInt ≤ 4)) (hk12 : ((-1) ≤ k12.toInt ∧ k12.toInt ≤ 99)) (sz : Nat) : Met l yX0_tellingQuestion vX0_tellingQuestion ({ frames := 3, cells := 0, slots := 0, locals := 68 }) (PC (dC, dI) [.ref a0, .ref a1] sz [(a0, .inr (0, [.ref a2, .int k3])), (a1, .inr (4, [.int k4, .int k5, g6, g7, .int k8, g9, g10, g11, .int k12, g13, g14, g15, g16, g17, g18, g19, g20, g21])), (a2, .inl (cB22, 288, .inl f23))] [(cB22, .int)]) (va_Qi (S := Unit) (fun (r : Int32) _ => ((-2) ≤ r.toInt ∧ r.toInt ≤ 799)) (fun _ t => BC (dC, dI) (va_A [(a0, .inr (0, [.ref a2, .int k3])), (a1, .inr (4, [.int k4, .int k5, g6, g7, .int k8, g9, g10, g11, .int k12, g13, g14, g15, g16, g17, g18, g19, g20, g21])), (a2, .inl (cB22, 288, .inl f23))] sz) [(a0, .inr (0, [.ref a2, .int k3])), (a1, .inr (4, [.int k4, .int k5, g6, g7, .int k8, g9, g10, g11, .int k12, g13, g14, g15, g16, g17, g18, g19, g20, g21])), (a2, .inl (cB22, 288, .inl f23))] [] t) (va_A [(a0, .inr (0, [.ref a2, .int k3])), (a1, .inr (4, [.int k4, .int k5, g6, g7, .int k8, g9, g10, g11, .int k12, g13, g14, g15, g16, g17, g18, g19, g20, g21])), (a2, .inl (cB22, 288, .inl f23))] sz)) 0 0 (va_A [(a0, .inr (0, [.ref a2, .int k3])), (a1, .inr (4, [.int k4, .int k5, g6, g7, .int k8, g9, g10, g11, .int k12, g13, g14, g15, g16, g17, g18, g19, g20, g21])), (a2, .inl (cB22, 288, .inl f23))] sz) := by
  refine Met.ofW (cc := cX0_tellingQuestion) (maxL := 6) (ret := (some .int)) (by decide) rfl ?_
  intro p e s m args below meth c s₁ B hml hv
  obtain ⟨rfl, hsz, hP, hK, hD0, hN⟩ := hv
  have hx := B.exec
  have hb := B.bytes
  have hr := B.returns
  have hts := atoms_spec (ws := vX0_tellingQuestion) B.pre
  have hown : s.vm.findClass RX0 = some m.cls := findClass_of_methodNamed B.named
  have hlocks := B.notSynchronized
  subst hsz
  have hD := hD0.self (sz := s.heap.size)
  generalize hAe : va_A [(a0, .inr (0, [.ref a2, .int k3])), (a1, .inr (4, [.int k4, .int k5, g6, g7, .int k8, g9, g10, g11, .int k12, g13, g14, g15, g16, g17, g18, g19, g20, g21])), (a2, .inl (cB22, 288, .inl f23))] s.heap.size = A at hD ⊢
  have hA : ∀ q : Nat, s.heap.size ≤ q → A q := fun q h => by rw [← hAe]; exact Or.inr h
  have hS : va_S A s.heap s.heap [] := va_S.rf
  have hP : va_P (dC, dI) vwCl [(a0, .inr (0, [.ref a2, .int k3])), (a1, .inr (4, [.int k4, .int k5, g6, g7, .int k8, g9, g10, g11, .int k12, g13, g14, g15, g16, g17, g18, g19, g20, g21])), (a2, .inl (cB22, 288, .inl f23))] s.heap := hP
  have hl := lv_entry ([.ref a0, .ref a1]) (n := 6) (Nat.le_of_ble_eq_true rfl)
  rw [lg_entry_eq]
  generalize (lg_sl ([.ref a0, .ref a1]) ++ List.replicate (6 - (lg_sl ([.ref a0, .ref a1])).length) Slot.unset).toArray = ls at hl ⊢
  have hl : lv_has ls 6 [(0, .ref a0), (1, .ref a1)] := hl
  refine lv_bipush (v := (-2)) hx hb dX0_tellingQuestion_0 (by decide) ?_
  refine lv_istore_n (lv' := [(2, .int (-2)), (0, .ref a0), (1, .ref a1)]) hx hb dX0_tellingQuestion_2 rfl hl (by decide) rfl (fun ls hl => ?_)
  refine lv_aload_n hx hb dX0_tellingQuestion_3 rfl (lv_at hl 1 rfl) ?_
  refine va_get (D := (dC, dI)) (ci := 0) (v := .int k3) (C := RX0) (T := TX0) (N := 2) hx hb hts iX0_tellingQuestion_X0 hown hK hP 0 rfl rfl 1 (by decide) (hts (.fieldLink RX0 15 "HookPier$Dark" "many" "I") (List.mem_of_getElem? (i := 1) rfl)) (fun _ h9 => h9) rfl dX0_tellingQuestion_4 ?_
  refine lv_istore_n (lv' := [(3, .int k3), (2, .int (-2)), (0, .ref a0), (1, .ref a1)]) hx hb dX0_tellingQuestion_7 rfl hl (by decide) rfl (fun ls hl => ?_)
  refine lv_iconst (v := 0) hx hb dX0_tellingQuestion_8 (by decide) ?_
  refine lv_istore (lv' := [(4, .int 0), (3, .int k3), (2, .int (-2)), (0, .ref a0), (1, .ref a1)]) hx hb dX0_tellingQuestion_9 hl (by decide) rfl (fun ls hl => ?_)
  have L11_419 : ∀ (n : Nat) (z416 : Int32) (z417 : Int32) (z418 : Int32) (H : Heap) (locs : List Loc) (ls : Array Slot), (0 ≤ z416.toInt ∧ z416.toInt ≤ 800) → ((-2) ≤ z418.toInt ∧ z418.toInt ≤ 799) → 800 - z416.toInt < (n : Int) → va_P (dC, dI) vwCl [(a0, .inr (0, [.ref a2, .int k3])), (a1, .inr (4, [.int k4, .int k5, g6, g7, .int k8, g9, g10, g11, .int k12, g13, g14, g15, g16, g17, g18, g19, g20, g21])), (a2, .inl (cB22, 288, .inl f23))] H → va_D A [(a0, .inr (0, [.ref a2, .int k3])), (a1, .inr (4, [.int k4, .int k5, g6, g7, .int k8, g9, g10, g11, .int k12, g13, g14, g15, g16, g17, g18, g19, g20, g21])), (a2, .inl (cB22, 288, .inl f23))] → va_S A s.heap H locs → lv_has ls 6 [(4, .int z416), (3, .int z417), (2, .int z418), (0, .ref a0), (1, .ref a1)] → W p l e (headSpec vX0_tellingQuestion { frames := 3, cells := 0, slots := 0, locals := 68 }).room s m ([.ref a0, .ref a1]).toArray below meth c H locs 0 0 (MQ below (va_Qi (S := Unit) (fun (r : Int32) _ => ((-2) ≤ r.toInt ∧ r.toInt ≤ 799)) (fun _ t => BC (dC, dI) A [(a0, .inr (0, [.ref a2, .int k3])), (a1, .inr (4, [.int k4, .int k5, g6, g7, .int k8, g9, g10, g11, .int k12, g13, g14, g15, g16, g17, g18, g19, g20, g21])), (a2, .inl (cB22, 288, .inl f23))] [] t) A) ([.ref a0, .ref a1]).toArray s 0 0 A) (F0 m 11 ls []) := by
    intro n
    induction n with
    | zero =>
      intro z416 z417 z418 H locs ls b11_0 b11_1 hm _ _ _ _
      exact absurd hm (by omega)
    | succ n ih11 =>
      intro z416 z417 z418 H locs ls b11_0 b11_1 hm11 hP hD hS hl
      refine lv_iload hx hb dX0_tellingQuestion_11 (lv_at hl 0 rfl) ?_
      refine lv_aload_n hx hb dX0_tellingQuestion_13 rfl (lv_at hl 4 rfl) ?_
      refine cl_i (wc := [(a1, .inr (4, [.int k4, .int k5, g6, g7, .int k8, g9, g10, g11, .int k12, g13, g14, g15, g16, g17, g18, g19, g20, g21]))]) (wr := [(a0, .inr (0, [.ref a2, .int k3])), (a2, .inl (cB22, 288, .inl f23))]) (va_runV (As := []) (rest := [.int z416]) ⟨hx, hb, hml, hown, hts⟩ (kX6_questionBound l dC dI a1 k4 (.int k5) (g6) (g7) (.int k8) (g9) (g10) (g11) (.int k12) (g13) (g14) (g15) (g16) (g17) (g18) (g19) (g20) (g21) (by first | omega | (simp only [ltv_0]; omega)) H.size) (cwV 0 hts gX0_tellingQuestion_0 rfl rfl rfl (by decide +kernel) ⟨Nat.le_of_ble_eq_true rfl, Nat.le_of_ble_eq_true rfl⟩) (PV (hP.sub (ws' := [(a1, .inr (4, [.int k4, .int k5, g6, g7, .int k8, g9, g10, g11, .int k12, g13, g14, g15, g16, g17, g18, g19, g20, g21]))]) [1] rfl) (hK.sub (tys' := []) [] rfl) (hD.sub (ws' := [(a1, .inr (4, [.int k4, .int k5, g6, g7, .int k8, g9, g10, g11, .int k12, g13, g14, g15, g16, g17, g18, g19, g20, g21]))]) [1] (by decide) rfl) hN 0 rfl rfl) rfl rfl hl.1 rfl (lv_room (Nat.le_of_ble_eq_true rfl)) dX0_tellingQuestion_14 ⟨Nat.le_of_ble_eq_true rfl, Nat.le_of_ble_eq_true rfl⟩) hP hD hK hS hA [1] [0, 2] rfl rfl (by decide) (by decide) (fun z420 _u H locs hw hP hD hK hS => ?_)
      have b421 := hw
      have hP : va_P (dC, dI) vwCl [(a0, .inr (0, [.ref a2, .int k3])), (a2, .inl (cB22, 288, .inl f23)), (a1, .inr (4, [.int k4, .int k5, g6, g7, .int k8, g9, g10, g11, .int k12, g13, g14, g15, g16, g17, g18, g19, g20, g21]))] H := hP
      have hD : va_D A [(a0, .inr (0, [.ref a2, .int k3])), (a2, .inl (cB22, 288, .inl f23)), (a1, .inr (4, [.int k4, .int k5, g6, g7, .int k8, g9, g10, g11, .int k12, g13, g14, g15, g16, g17, g18, g19, g20, g21]))] := hD
      have hK : va_K (dC, dI) vwCl [(cB22, .int)] s := hK
      refine lv_icmp_ge (tgt := 69) hx hb dX0_tellingQuestion_17 (by decide) (fun c422 => ?_) (fun c422 => ?_)
      · simp only [fa_lt, fa_le, fa_eq, ltv_0] at c422
        refine lv_iload_n hx hb dX0_tellingQuestion_69 rfl (lv_at hl 2 rfl) ?_
        have hP9 := hP.sub (ws' := [(a0, .inr (0, [.ref a2, .int k3])), (a1, .inr (4, [.int k4, .int k5, g6, g7, .int k8, g9, g10, g11, .int k12, g13, g14, g15, g16, g17, g18, g19, g20, g21])), (a2, .inl (cB22, 288, .inl f23))]) [0, 2, 1] rfl
        have hD9 := hD.sub (ws' := [(a0, .inr (0, [.ref a2, .int k3])), (a1, .inr (4, [.int k4, .int k5, g6, g7, .int k8, g9, g10, g11, .int k12, g13, g14, g15, g16, g17, g18, g19, g20, g21])), (a2, .inl (cB22, 288, .inl f23))]) [0, 2, 1] (by decide) rfl
        have hK9 := hK.sub (tys' := []) [] rfl
        exact W.iret (v := z418) hx hb hr (fun t ht hW => ⟨⟨z418, (), rfl, (by first | trivial | omega | (simp only [ltv_0]; omega)), by rw [ht]; exact hP9, va_K.moved hW.alike hK9, hD9⟩, hS.F ht⟩) hS.2.2 dX0_tellingQuestion_70
      · simp only [fa_lt, fa_le, fa_eq, ltv_0] at c422
        refine lv_aload_n hx hb dX0_tellingQuestion_20 rfl (lv_at hl 3 rfl) ?_
        refine va_get (D := (dC, dI)) (ci := 0) (v := .int k3) (C := RX0) (T := TX0) (N := 2) hx hb hts iX0_tellingQuestion_X0 hown hK hP 0 rfl rfl 1 (by decide) (hts (.fieldLink RX0 15 "HookPier$Dark" "many" "I") (List.mem_of_getElem? (i := 1) rfl)) (fun _ h9 => h9) rfl dX0_tellingQuestion_21 ?_
        refine lv_if_le (tgt := 69) hx hb dX0_tellingQuestion_24 (by decide) (fun c423 => ?_) (fun c423 => ?_)
        · simp only [fa_lt, fa_le, fa_eq, ltv_0] at c423
          refine lv_iload_n hx hb dX0_tellingQuestion_69 rfl (lv_at hl 2 rfl) ?_
          have hP9 := hP.sub (ws' := [(a0, .inr (0, [.ref a2, .int k3])), (a1, .inr (4, [.int k4, .int k5, g6, g7, .int k8, g9, g10, g11, .int k12, g13, g14, g15, g16, g17, g18, g19, g20, g21])), (a2, .inl (cB22, 288, .inl f23))]) [0, 2, 1] rfl
          have hD9 := hD.sub (ws' := [(a0, .inr (0, [.ref a2, .int k3])), (a1, .inr (4, [.int k4, .int k5, g6, g7, .int k8, g9, g10, g11, .int k12, g13, g14, g15, g16, g17, g18, g19, g20, g21])), (a2, .inl (cB22, 288, .inl f23))]) [0, 2, 1] (by decide) rfl
          have hK9 := hK.sub (tys' := []) [] rfl
          exact W.iret (v := z418) hx hb hr (fun t ht hW => ⟨⟨z418, (), rfl, (by first | trivial | omega | (simp only [ltv_0]; omega)), by rw [ht]; exact hP9, va_K.moved hW.alike hK9, hD9⟩, hS.F ht⟩) hS.2.2 dX0_tellingQuestion_70
        · simp only [fa_lt, fa_le, fa_eq, ltv_0] at c423
          refine lv_aload_n hx hb dX0_tellingQuestion_27 rfl (lv_at hl 4 rfl) ?_
          refine lv_iload hx hb dX0_tellingQuestion_28 (lv_at hl 0 rfl) ?_
          refine cl_i (wc := [(a1, .inr (4, [.int k4, .int k5, g6, g7, .int k8, g9, g10, g11, .int k12, g13, g14, g15, g16, g17, g18, g19, g20, g21]))]) (wr := [(a0, .inr (0, [.ref a2, .int k3])), (a2, .inl (cB22, 288, .inl f23))]) (va_runV (As := [.int z416]) (rest := []) ⟨hx, hb, hml, hown, hts⟩ (kX6_hasQuestion l dC dI a1 z416 k4 k5 (g6) (g7) k8 (g9) (g10) (g11) (.int k12) (g13) (g14) (g15) (g16) (g17) (g18) (g19) (g20) (g21) (by first | omega | (simp only [ltv_0]; omega)) (by first | omega | (simp only [ltv_0]; omega)) (by first | omega | (simp only [ltv_0]; omega)) H.size) (cwV 1 hts gX0_tellingQuestion_1 rfl rfl rfl (by decide +kernel) ⟨Nat.le_of_ble_eq_true rfl, Nat.le_of_ble_eq_true rfl⟩) (PV (hP.sub (ws' := [(a1, .inr (4, [.int k4, .int k5, g6, g7, .int k8, g9, g10, g11, .int k12, g13, g14, g15, g16, g17, g18, g19, g20, g21]))]) [2] rfl) (hK.sub (tys' := []) [] rfl) (hD.sub (ws' := [(a1, .inr (4, [.int k4, .int k5, g6, g7, .int k8, g9, g10, g11, .int k12, g13, g14, g15, g16, g17, g18, g19, g20, g21]))]) [2] (by decide) rfl) hN 0 rfl rfl) rfl rfl hl.1 rfl (lv_room (Nat.le_of_ble_eq_true rfl)) dX0_tellingQuestion_30 ⟨Nat.le_of_ble_eq_true rfl, Nat.le_of_ble_eq_true rfl⟩) hP hD hK hS hA [2] [0, 1] rfl rfl (by decide) (by decide) (fun z424 _u H locs hw hP hD hK hS => ?_)
          have b425 := hw
          have hP : va_P (dC, dI) vwCl [(a0, .inr (0, [.ref a2, .int k3])), (a2, .inl (cB22, 288, .inl f23)), (a1, .inr (4, [.int k4, .int k5, g6, g7, .int k8, g9, g10, g11, .int k12, g13, g14, g15, g16, g17, g18, g19, g20, g21]))] H := hP
          have hD : va_D A [(a0, .inr (0, [.ref a2, .int k3])), (a2, .inl (cB22, 288, .inl f23)), (a1, .inr (4, [.int k4, .int k5, g6, g7, .int k8, g9, g10, g11, .int k12, g13, g14, g15, g16, g17, g18, g19, g20, g21]))] := hD
          have hK : va_K (dC, dI) vwCl [(cB22, .int)] s := hK
          refine lv_if_eq (tgt := 63) hx hb dX0_tellingQuestion_33 (by decide) (fun c426 => ?_) (fun c426 => ?_)
          · simp only [fa_lt, fa_le, fa_eq, ltv_0] at c426
            obtain ⟨z427, ez427⟩ : ∃ y : Int32, y = z416 + 1 := ⟨_, rfl⟩
            have tz427 : z427.toInt = z416.toInt + 1 := by rw [ez427, iadd_t (by simp only [ltv_1]; omega) (by simp only [ltv_1]; omega)]; simp only [ltv_1]
            refine lv_iinc (v := z427) (lv' := [(4, .int z427), (3, .int z417), (2, .int z418), (0, .ref a0), (1, .ref a1)]) hx hb dX0_tellingQuestion_63 hl (k := 0) rfl (by rw [ez427]; rfl) (by decide) rfl (fun ls hl => ?_)
            refine lv_goto (tgt := 11) hx hb dX0_tellingQuestion_66 (by decide) ?_
            exact ih11 z427 z417 z418 H locs ls (by first | omega | (simp only [ltv_0]; omega)) (by first | omega | (simp only [ltv_0]; omega)) (by first | omega | (simp only [ltv_0]; omega)) (hP.sub (ws' := [(a0, .inr (0, [.ref a2, .int k3])), (a1, .inr (4, [.int k4, .int k5, g6, g7, .int k8, g9, g10, g11, .int k12, g13, g14, g15, g16, g17, g18, g19, g20, g21])), (a2, .inl (cB22, 288, .inl f23))]) [0, 2, 1] rfl) (hD.sub (ws' := [(a0, .inr (0, [.ref a2, .int k3])), (a1, .inr (4, [.int k4, .int k5, g6, g7, .int k8, g9, g10, g11, .int k12, g13, g14, g15, g16, g17, g18, g19, g20, g21])), (a2, .inl (cB22, 288, .inl f23))]) [0, 2, 1] (by decide) rfl) hS (lv_sub hl [0, 1, 2, 3, 4] rfl)
          · simp only [fa_lt, fa_le, fa_eq, ltv_0] at c426
            refine lv_aload_n hx hb dX0_tellingQuestion_36 rfl (lv_at hl 3 rfl) ?_
            refine lv_aload_n hx hb dX0_tellingQuestion_37 rfl (lv_at hl 4 rfl) ?_
            refine lv_iload hx hb dX0_tellingQuestion_38 (lv_at hl 0 rfl) ?_
            refine cl_i (wc := [(a0, .inr (0, [.ref a2, .int k3])), (a1, .inr (4, [.int k4, .int k5, g6, g7, .int k8, g9, g10, g11, .int k12, g13, g14, g15, g16, g17, g18, g19, g20, g21])), (a2, .inl (cB22, 288, .inl f23))]) (wr := []) (va_runV (As := [.ref a1, .int z416]) (rest := []) ⟨hx, hb, hml, hown, hts⟩ (kX0_leftAtMost l dC dI a0 a1 z416 a2 k3 (.int k4) (.int k5) (g6) (g7) (.int k8) (g9) (g10) (g11) k12 (g13) (g14) (g15) (g16) (g17) (g18) (g19) (g20) (g21) cB22 f23 (by first | omega | (simp only [ltv_0]; omega)) (by first | omega | (simp only [ltv_0]; omega)) H.size) (cwV 2 hts gX0_tellingQuestion_2 rfl rfl rfl (by decide +kernel) ⟨Nat.le_of_ble_eq_true rfl, Nat.le_of_ble_eq_true rfl⟩) (PV (hP.sub (ws' := [(a0, .inr (0, [.ref a2, .int k3])), (a1, .inr (4, [.int k4, .int k5, g6, g7, .int k8, g9, g10, g11, .int k12, g13, g14, g15, g16, g17, g18, g19, g20, g21])), (a2, .inl (cB22, 288, .inl f23))]) [0, 2, 1] rfl) (hK.sub (tys' := [(cB22, .int)]) [0] rfl) (hD.sub (ws' := [(a0, .inr (0, [.ref a2, .int k3])), (a1, .inr (4, [.int k4, .int k5, g6, g7, .int k8, g9, g10, g11, .int k12, g13, g14, g15, g16, g17, g18, g19, g20, g21])), (a2, .inl (cB22, 288, .inl f23))]) [0, 2, 1] (by decide) rfl) hN 0 rfl rfl) rfl rfl hl.1 rfl (lv_room (Nat.le_of_ble_eq_true rfl)) dX0_tellingQuestion_40 ⟨Nat.le_of_ble_eq_true rfl, Nat.le_of_ble_eq_true rfl⟩) hP hD hK hS hA [0, 2, 1] [] rfl rfl (by decide) (by decide) (fun z428 _u H locs hw hP hD hK hS => ?_)
            have b429 := hw
            have hP : va_P (dC, dI) vwCl [(a0, .inr (0, [.ref a2, .int k3])), (a1, .inr (4, [.int k4, .int k5, g6, g7, .int k8, g9, g10, g11, .int k12, g13, g14, g15, g16, g17, g18, g19, g20, g21])), (a2, .inl (cB22, 288, .inl f23))] H := hP
            have hD : va_D A [(a0, .inr (0, [.ref a2, .int k3])), (a1, .inr (4, [.int k4, .int k5, g6, g7, .int k8, g9, g10, g11, .int k12, g13, g14, g15, g16, g17, g18, g19, g20, g21])), (a2, .inl (cB22, 288, .inl f23))] := hD
            have hK : va_K (dC, dI) vwCl [(cB22, .int)] s := hK
            refine lv_istore (lv' := [(5, .int z428), (4, .int z416), (3, .int z417), (2, .int z418), (0, .ref a0), (1, .ref a1)]) hx hb dX0_tellingQuestion_43 hl (by decide) rfl (fun ls hl => ?_)
            refine lv_iload_n hx hb dX0_tellingQuestion_45 rfl (lv_at hl 3 rfl) ?_
            refine lv_bipush (v := (-2)) hx hb dX0_tellingQuestion_46 (by decide) ?_
            refine lv_icmp_eq (tgt := 57) hx hb dX0_tellingQuestion_48 (by decide) (fun c430 => ?_) (fun c430 => ?_)
            · simp only [fa_lt, fa_le, fa_eq, ltv_m2, ltv_0] at c430
              refine lv_iload hx hb dX0_tellingQuestion_57 (lv_at hl 0 rfl) ?_
              refine lv_istore_n (lv' := [(3, .int z428), (5, .int z428), (4, .int z416), (2, .int z418), (0, .ref a0), (1, .ref a1)]) hx hb dX0_tellingQuestion_59 rfl hl (by decide) rfl (fun ls hl => ?_)
              refine lv_iload hx hb dX0_tellingQuestion_60 (lv_at hl 2 rfl) ?_
              refine lv_istore_n (lv' := [(2, .int z416), (3, .int z428), (5, .int z428), (4, .int z416), (0, .ref a0), (1, .ref a1)]) hx hb dX0_tellingQuestion_62 rfl hl (by decide) rfl (fun ls hl => ?_)
              obtain ⟨z431, ez431⟩ : ∃ y : Int32, y = z416 + 1 := ⟨_, rfl⟩
              have tz431 : z431.toInt = z416.toInt + 1 := by rw [ez431, iadd_t (by simp only [ltv_1]; omega) (by simp only [ltv_1]; omega)]; simp only [ltv_1]
              refine lv_iinc (v := z431) (lv' := [(4, .int z431), (2, .int z416), (3, .int z428), (5, .int z428), (0, .ref a0), (1, .ref a1)]) hx hb dX0_tellingQuestion_63 hl (k := 3) rfl (by rw [ez431]; rfl) (by decide) rfl (fun ls hl => ?_)
              refine lv_goto (tgt := 11) hx hb dX0_tellingQuestion_66 (by decide) ?_
              exact ih11 z431 z428 z416 H locs ls (by first | omega | (simp only [ltv_0]; omega)) (by first | omega | (simp only [ltv_0]; omega)) (by first | omega | (simp only [ltv_0]; omega)) hP hD hS (lv_sub hl [0, 2, 1, 4, 5] rfl)
            · simp only [fa_lt, fa_le, fa_eq, ltv_m2, ltv_0] at c430
              refine lv_iload hx hb dX0_tellingQuestion_51 (lv_at hl 0 rfl) ?_
              refine lv_iload_n hx hb dX0_tellingQuestion_53 rfl (lv_at hl 2 rfl) ?_
              refine lv_icmp_ge (tgt := 63) hx hb dX0_tellingQuestion_54 (by decide) (fun c432 => ?_) (fun c432 => ?_)
              · simp only [fa_lt, fa_le, fa_eq, ltv_0] at c432
                obtain ⟨z433, ez433⟩ : ∃ y : Int32, y = z416 + 1 := ⟨_, rfl⟩
                have tz433 : z433.toInt = z416.toInt + 1 := by rw [ez433, iadd_t (by simp only [ltv_1]; omega) (by simp only [ltv_1]; omega)]; simp only [ltv_1]
                refine lv_iinc (v := z433) (lv' := [(4, .int z433), (5, .int z428), (3, .int z417), (2, .int z418), (0, .ref a0), (1, .ref a1)]) hx hb dX0_tellingQuestion_63 hl (k := 1) rfl (by rw [ez433]; rfl) (by decide) rfl (fun ls hl => ?_)
                refine lv_goto (tgt := 11) hx hb dX0_tellingQuestion_66 (by decide) ?_
                exact ih11 z433 z417 z418 H locs ls (by first | omega | (simp only [ltv_0]; omega)) (by first | omega | (simp only [ltv_0]; omega)) (by first | omega | (simp only [ltv_0]; omega)) hP hD hS (lv_sub hl [0, 2, 3, 4, 5] rfl)
              · simp only [fa_lt, fa_le, fa_eq, ltv_0] at c432
                refine lv_iload hx hb dX0_tellingQuestion_57 (lv_at hl 0 rfl) ?_
                refine lv_istore_n (lv' := [(3, .int z428), (5, .int z428), (4, .int z416), (2, .int z418), (0, .ref a0), (1, .ref a1)]) hx hb dX0_tellingQuestion_59 rfl hl (by decide) rfl (fun ls hl => ?_)
                refine lv_iload hx hb dX0_tellingQuestion_60 (lv_at hl 2 rfl) ?_
                refine lv_istore_n (lv' := [(2, .int z416), (3, .int z428), (5, .int z428), (4, .int z416), (0, .ref a0), (1, .ref a1)]) hx hb dX0_tellingQuestion_62 rfl hl (by decide) rfl (fun ls hl => ?_)
                obtain ⟨z434, ez434⟩ : ∃ y : Int32, y = z416 + 1 := ⟨_, rfl⟩
                have tz434 : z434.toInt = z416.toInt + 1 := by rw [ez434, iadd_t (by simp only [ltv_1]; omega) (by simp only [ltv_1]; omega)]; simp only [ltv_1]
                refine lv_iinc (v := z434) (lv' := [(4, .int z434), (2, .int z416), (3, .int z428), (5, .int z428), (0, .ref a0), (1, .ref a1)]) hx hb dX0_tellingQuestion_63 hl (k := 3) rfl (by rw [ez434]; rfl) (by decide) rfl (fun ls hl => ?_)
                refine lv_goto (tgt := 11) hx hb dX0_tellingQuestion_66 (by decide) ?_
                exact ih11 z434 z428 z416 H locs ls (by first | omega | (simp only [ltv_0]; omega)) (by first | omega | (simp only [ltv_0]; omega)) (by first | omega | (simp only [ltv_0]; omega)) hP hD hS (lv_sub hl [0, 2, 1, 4, 5] rfl)
  exact L11_419 801 (0) k3 ((-2)) s.heap _ ls (by first | omega | (simp only [ltv_m2, ltv_0]; omega)) (by first | omega | (simp only [ltv_m2, ltv_0]; omega)) (by first | omega | (simp only [ltv_m2, ltv_0]; omega)) hP hD hS (lv_sub hl [0, 1, 2, 3, 4] rfl)
theorem dX8_keepRow_0 : decode cX8_keepRow 0 = .ok (.aload_n 0, 1) := by decide +kernel
theorem dX8_keepRow_1 : decode cX8_keepRow 1 = .ok (.getfield 18, 3) := by decide +kernel
theorem dX8_keepRow_11 : decode cX8_keepRow 11 = .ok (.iconst 0, 1) := by decide +kernel
theorem dX8_keepRow_12 : decode cX8_keepRow 12 = .ok (.aload_n 0, 1) := by decide +kernel
theorem dX8_keepRow_13 : decode cX8_keepRow 13 = .ok (.getfield 15, 3) := by decide +kernel
theorem dX8_keepRow_16 : decode cX8_keepRow 16 = .ok (.iconst 0, 1) := by decide +kernel
theorem dX8_keepRow_17 : decode cX8_keepRow 17 = .ok (.aload_n 0, 1) := by decide +kernel
theorem dX8_keepRow_18 : decode cX8_keepRow 18 = .ok (.getfield 9, 3) := by decide +kernel
theorem dX8_keepRow_21 : decode cX8_keepRow 21 = .ok (.arraylength, 1) := by decide +kernel
theorem dX8_keepRow_22 : decode cX8_keepRow 22 = .ok (.invokestatic 41, 3) := by decide +kernel
theorem dX8_keepRow_25 : decode cX8_keepRow 25 = .ok (.aload_n 0, 1) := by decide +kernel
theorem dX8_keepRow_26 : decode cX8_keepRow 26 = .ok (.dup, 1) := by decide +kernel
theorem dX8_keepRow_27 : decode cX8_keepRow 27 = .ok (.getfield 18, 3) := by decide +kernel
theorem dX8_keepRow_30 : decode cX8_keepRow 30 = .ok (.iconst 1, 1) := by decide +kernel
theorem dX8_keepRow_31 : decode cX8_keepRow 31 = .ok (.iadd, 1) := by decide +kernel
theorem dX8_keepRow_32 : decode cX8_keepRow 32 = .ok (.putfield 18, 3) := by decide +kernel
theorem dX8_keepRow_35 : decode cX8_keepRow 35 = .ok (.return_, 1) := by decide +kernel
theorem dX8_keepRow_4 : decode cX8_keepRow 4 = .ok (.ifCond .ne 21, 3) := by decide +kernel
theorem dX8_keepRow_7 : decode cX8_keepRow 7 = .ok (.aload_n 0, 1) := by decide +kernel
theorem dX8_keepRow_8 : decode cX8_keepRow 8 = .ok (.getfield 9, 3) := by decide +kernel
def vX8_keepRow : List Cond := .code yX8_keepRow cX8_keepRow 1 none :: ([.fieldLink RX8 18 "HookPier$Seats" "found" "I", .fieldLink RX8 9 "HookPier$Seats" "row" "[I", .fieldLink RX8 15 "HookPier$Seats" "first" "[I", .methodLink RX8 41 arraycopyName, .native arraycopyName, .static arraycopyName, .initialized "java/lang/System"] ++ wsX80)
theorem iX8_keepRow_X8 : ∀ w ∈ wsX80, w ∈ vX8_keepRow := fun _ h => List.mem_cons_of_mem _ (List.mem_append_right _ h)
set_option maxHeartbeats 2000000 in
set_option maxRecDepth 100000 in
theorem kX8_keepRow (l : Launch) (dC : Nat → ClassId) (dI : Nat → Nat → Nat) (a0 : Nat) (a1 : Nat) (a2 : Nat) (k3 : Int32) (cB4 : ClassId) (f5 : Nat → Int32) (cB6 : ClassId) (f7 : Nat → Int32) (sz : Nat) : Met l yX8_keepRow vX8_keepRow ({ frames := 1, cells := 0, slots := 0, locals := 40 }) (PC (dC, dI) [.ref a0] sz [(a0, .inr (6, [.ref a1, .ref a2, .int k3])), (a1, .inl (cB4, 5, .inl f5)), (a2, .inl (cB6, 5, .inl f7))] [(cB4, .int), (cB6, .int)]) (va_Qv (S := Int32 × (Nat → Int32)) (fun u => True) (fun u t => BC (dC, dI) (va_A [(a0, .inr (6, [.ref a1, .ref a2, .int k3])), (a1, .inl (cB4, 5, .inl f5)), (a2, .inl (cB6, 5, .inl f7))] sz) [(a0, .inr (6, [.ref a1, .ref a2, .int (u.1)])), (a1, .inl (cB4, 5, .inl f5)), (a2, .inl (cB6, 5, .inl (u.2)))] [] t) (va_A [(a0, .inr (6, [.ref a1, .ref a2, .int k3])), (a1, .inl (cB4, 5, .inl f5)), (a2, .inl (cB6, 5, .inl f7))] sz)) 0 0 (va_A [(a0, .inr (6, [.ref a1, .ref a2, .int k3])), (a1, .inl (cB4, 5, .inl f5)), (a2, .inl (cB6, 5, .inl f7))] sz) := by
  refine Met.ofW (cc := cX8_keepRow) (maxL := 1) (ret := none) (by decide) rfl ?_
  intro p e s m args below meth c s₁ B hml hv
  obtain ⟨rfl, hsz, hP, hK, hD0, hN⟩ := hv
  have hx := B.exec
  have hb := B.bytes
  have hr := B.returns
  have hts := atoms_spec (ws := vX8_keepRow) B.pre
  have hown : s.vm.findClass RX8 = some m.cls := findClass_of_methodNamed B.named
  have hlocks := B.notSynchronized
  subst hsz
  have hD := hD0.self (sz := s.heap.size)
  generalize hAe : va_A [(a0, .inr (6, [.ref a1, .ref a2, .int k3])), (a1, .inl (cB4, 5, .inl f5)), (a2, .inl (cB6, 5, .inl f7))] s.heap.size = A at hD ⊢
  have hA : ∀ q : Nat, s.heap.size ≤ q → A q := fun q h => by rw [← hAe]; exact Or.inr h
  have hS : va_S A s.heap s.heap [] := va_S.rf
  have hP : va_P (dC, dI) vwCl [(a0, .inr (6, [.ref a1, .ref a2, .int k3])), (a1, .inl (cB4, 5, .inl f5)), (a2, .inl (cB6, 5, .inl f7))] s.heap := hP
  have hl := lv_entry ([.ref a0]) (n := 1) (Nat.le_of_ble_eq_true rfl)
  rw [lg_entry_eq]
  generalize (lg_sl ([.ref a0]) ++ List.replicate (1 - (lg_sl ([.ref a0])).length) Slot.unset).toArray = ls at hl ⊢
  have hl : lv_has ls 1 [(0, .ref a0)] := hl
  refine lv_aload_n hx hb dX8_keepRow_0 rfl (lv_at hl 0 rfl) ?_
  refine va_get (D := (dC, dI)) (ci := 6) (v := .int k3) (C := RX8) (T := TX8) (N := 3) hx hb hts iX8_keepRow_X8 hown hK hP 0 rfl rfl 2 (by decide) (hts (.fieldLink RX8 18 "HookPier$Seats" "found" "I") (List.mem_of_getElem? (i := 1) rfl)) (fun _ h9 => h9) rfl dX8_keepRow_1 ?_
  refine lv_if_ne (tgt := 25) hx hb dX8_keepRow_4 (by decide) (fun c1 => ?_) (fun c1 => ?_)
  · simp only [fa_lt, fa_le, fa_eq, ltv_0] at c1
    refine lv_aload_n hx hb dX8_keepRow_25 rfl (lv_at hl 0 rfl) ?_
    refine lv_dup hx hb dX8_keepRow_26 rfl ?_
    refine va_get (D := (dC, dI)) (ci := 6) (v := .int k3) (C := RX8) (T := TX8) (N := 3) hx hb hts iX8_keepRow_X8 hown hK hP 0 rfl rfl 2 (by decide) (hts (.fieldLink RX8 18 "HookPier$Seats" "found" "I") (List.mem_of_getElem? (i := 1) rfl)) (fun _ h9 => h9) rfl dX8_keepRow_27 ?_
    refine lv_iconst (v := 1) hx hb dX8_keepRow_30 (by decide) ?_
    refine lv_iadd hx hb dX8_keepRow_31 ?_
    refine lv_topi (fun z2 ez2 => ?_)
    clear ez2
    refine va_put (D := (dC, dI)) (ci := 6) (v := .int z2) (ty := .int) (C := RX8) (T := TX8) (N := 3) hx hb hts iX8_keepRow_X8 tyX8 tyX8_ok nmX8 hown hK hP hD hS 0 rfl rfl 2 (by decide) (hts (.fieldLink RX8 18 "HookPier$Seats" "found" "I") (List.mem_of_getElem? (i := 1) rfl)) (fun _ h9 => h9) rfl (by decide +kernel) rfl rfl (Nat.le_of_ble_eq_true rfl) dX8_keepRow_32 (fun H locs hP hD hS => ?_)
    have hP : va_P (dC, dI) vwCl [(a0, .inr (6, [.ref a1, .ref a2, .int z2])), (a1, .inl (cB4, 5, .inl f5)), (a2, .inl (cB6, 5, .inl f7))] H := hP
    have hD : va_D A [(a0, .inr (6, [.ref a1, .ref a2, .int z2])), (a1, .inl (cB4, 5, .inl f5)), (a2, .inl (cB6, 5, .inl f7))] := hD
    have hP9 := hP.sub (ws' := [(a0, .inr (6, [.ref a1, .ref a2, .int z2])), (a1, .inl (cB4, 5, .inl f5)), (a2, .inl (cB6, 5, .inl f7))]) [0, 1, 2] rfl
    have hD9 := hD.sub (ws' := [(a0, .inr (6, [.ref a1, .ref a2, .int z2])), (a1, .inl (cB4, 5, .inl f5)), (a2, .inl (cB6, 5, .inl f7))]) [0, 1, 2] (by decide) rfl
    have hK9 := hK.sub (tys' := []) [] rfl
    exact W.vret hx hb hr (fun t ht hW => ⟨⟨(z2, f7), rfl, trivial, by rw [ht]; exact hP9, va_K.moved hW.alike hK9, hD9⟩, hS.F ht⟩) hS.2.2 dX8_keepRow_35
  · simp only [fa_lt, fa_le, fa_eq, ltv_0] at c1
    refine lv_aload_n hx hb dX8_keepRow_7 rfl (lv_at hl 0 rfl) ?_
    refine va_get (D := (dC, dI)) (ci := 6) (v := .ref a1) (C := RX8) (T := TX8) (N := 3) hx hb hts iX8_keepRow_X8 hown hK hP 0 rfl rfl 0 (by decide) (hts (.fieldLink RX8 9 "HookPier$Seats" "row" "[I") (List.mem_of_getElem? (i := 2) rfl)) (fun _ h9 => h9) rfl dX8_keepRow_8 ?_
    refine lv_iconst (v := 0) hx hb dX8_keepRow_11 (by decide) ?_
    refine lv_aload_n hx hb dX8_keepRow_12 rfl (lv_at hl 0 rfl) ?_
    refine va_get (D := (dC, dI)) (ci := 6) (v := .ref a2) (C := RX8) (T := TX8) (N := 3) hx hb hts iX8_keepRow_X8 hown hK hP 0 rfl rfl 1 (by decide) (hts (.fieldLink RX8 15 "HookPier$Seats" "first" "[I") (List.mem_of_getElem? (i := 3) rfl)) (fun _ h9 => h9) rfl dX8_keepRow_13 ?_
    refine lv_iconst (v := 0) hx hb dX8_keepRow_16 (by decide) ?_
    refine lv_aload_n hx hb dX8_keepRow_17 rfl (lv_at hl 0 rfl) ?_
    refine va_get (D := (dC, dI)) (ci := 6) (v := .ref a1) (C := RX8) (T := TX8) (N := 3) hx hb hts iX8_keepRow_X8 hown hK hP 0 rfl rfl 0 (by decide) (hts (.fieldLink RX8 9 "HookPier$Seats" "row" "[I") (List.mem_of_getElem? (i := 2) rfl)) (fun _ h9 => h9) rfl dX8_keepRow_18 ?_
    refine va_alen (v := 5) hx hb hK hP 1 0 rfl rfl rfl dX8_keepRow_21 ?_
    refine va_copyi hx hb (by rw [hml]; exact hl.1.symm) hown (hts (.methodLink RX8 41 arraycopyName) (List.mem_of_getElem? (i := 4) rfl)) (hts (.native arraycopyName) (List.mem_of_getElem? (i := 5) rfl)) (hts (.static arraycopyName) (List.mem_of_getElem? (i := 6) rfl)) (hts (.initialized "java/lang/System") (List.mem_of_getElem? (i := 7) rfl)) hK hP hD hS 1 2 0 1 rfl rfl rfl rfl rfl (by decide) (by decide) (by decide) (by decide) (by decide) (fun _ _ => rfl) (Nat.le_of_ble_eq_true rfl) (Nat.le_of_ble_eq_true rfl) dX8_keepRow_22 (fun H locs hP hD hS => ?_)
    have hP : va_P (dC, dI) vwCl [(a0, .inr (6, [.ref a1, .ref a2, .int k3])), (a1, .inl (cB4, 5, .inl f5)), (a2, .inl (cB6, 5, .inl (va_cpy f5 f7 (0 : Int32).toNatClampNeg (0 : Int32).toNatClampNeg (5 : Int32).toNatClampNeg)))] H := hP
    have hD : va_D A [(a0, .inr (6, [.ref a1, .ref a2, .int k3])), (a1, .inl (cB4, 5, .inl f5)), (a2, .inl (cB6, 5, .inl (va_cpy f5 f7 (0 : Int32).toNatClampNeg (0 : Int32).toNatClampNeg (5 : Int32).toNatClampNeg)))] := hD
    generalize va_cpy f5 f7 (0 : Int32).toNatClampNeg (0 : Int32).toNatClampNeg (5 : Int32).toNatClampNeg = f3 at hP hD
    refine lv_aload_n hx hb dX8_keepRow_25 rfl (lv_at hl 0 rfl) ?_
    refine lv_dup hx hb dX8_keepRow_26 rfl ?_
    refine va_get (D := (dC, dI)) (ci := 6) (v := .int k3) (C := RX8) (T := TX8) (N := 3) hx hb hts iX8_keepRow_X8 hown hK hP 0 rfl rfl 2 (by decide) (hts (.fieldLink RX8 18 "HookPier$Seats" "found" "I") (List.mem_of_getElem? (i := 1) rfl)) (fun _ h9 => h9) rfl dX8_keepRow_27 ?_
    refine lv_iconst (v := 1) hx hb dX8_keepRow_30 (by decide) ?_
    refine lv_iadd hx hb dX8_keepRow_31 ?_
    refine lv_topi (fun z4 ez4 => ?_)
    have tz4 : z4.toInt = k3.toInt + 1 := by rw [ez4]; rw [iadd_t (by first | omega | (simp only [ltv_0, ltv_1]; omega)) (by first | omega | (simp only [ltv_0, ltv_1]; omega))]; first | done | (simp only [ltv_0, ltv_1])
    refine va_put (D := (dC, dI)) (ci := 6) (v := .int z4) (ty := .int) (C := RX8) (T := TX8) (N := 3) hx hb hts iX8_keepRow_X8 tyX8 tyX8_ok nmX8 hown hK hP hD hS 0 rfl rfl 2 (by decide) (hts (.fieldLink RX8 18 "HookPier$Seats" "found" "I") (List.mem_of_getElem? (i := 1) rfl)) (fun _ h9 => h9) rfl (by decide +kernel) rfl rfl (Nat.le_of_ble_eq_true rfl) dX8_keepRow_32 (fun H locs hP hD hS => ?_)
    have hP : va_P (dC, dI) vwCl [(a0, .inr (6, [.ref a1, .ref a2, .int z4])), (a1, .inl (cB4, 5, .inl f5)), (a2, .inl (cB6, 5, .inl f3))] H := hP
    have hD : va_D A [(a0, .inr (6, [.ref a1, .ref a2, .int z4])), (a1, .inl (cB4, 5, .inl f5)), (a2, .inl (cB6, 5, .inl f3))] := hD
    have hP9 := hP.sub (ws' := [(a0, .inr (6, [.ref a1, .ref a2, .int z4])), (a1, .inl (cB4, 5, .inl f5)), (a2, .inl (cB6, 5, .inl f3))]) [0, 1, 2] rfl
    have hD9 := hD.sub (ws' := [(a0, .inr (6, [.ref a1, .ref a2, .int z4])), (a1, .inl (cB4, 5, .inl f5)), (a2, .inl (cB6, 5, .inl f3))]) [0, 1, 2] (by decide) rfl
    have hK9 := hK.sub (tys' := []) [] rfl
    exact W.vret hx hb hr (fun t ht hW => ⟨⟨(z4, f3), rfl, trivial, by rw [ht]; exact hP9, va_K.moved hW.alike hK9, hD9⟩, hS.F ht⟩) hS.2.2 dX8_keepRow_35
theorem dX8_isFree_0 : decode cX8_isFree 0 = .ok (.iconst 0, 1) := by decide +kernel
theorem dX8_isFree_1 : decode cX8_isFree 1 = .ok (.istore 4, 2) := by decide +kernel
theorem dX8_isFree_10 : decode cX8_isFree 10 = .ok (.getfield 9, 3) := by decide +kernel
theorem dX8_isFree_13 : decode cX8_isFree 13 = .ok (.iload 4, 2) := by decide +kernel
theorem dX8_isFree_15 : decode cX8_isFree 15 = .ok (.iaload, 1) := by decide +kernel
theorem dX8_isFree_16 : decode cX8_isFree 16 = .ok (.iconst (-1), 1) := by decide +kernel
theorem dX8_isFree_17 : decode cX8_isFree 17 = .ok (.if_icmp .eq 23, 3) := by decide +kernel
theorem dX8_isFree_20 : decode cX8_isFree 20 = .ok (.aload_n 1, 1) := by decide +kernel
theorem dX8_isFree_21 : decode cX8_isFree 21 = .ok (.iload_n 2, 1) := by decide +kernel
theorem dX8_isFree_22 : decode cX8_isFree 22 = .ok (.iload_n 3, 1) := by decide +kernel
theorem dX8_isFree_23 : decode cX8_isFree 23 = .ok (.iload 4, 2) := by decide +kernel
theorem dX8_isFree_25 : decode cX8_isFree 25 = .ok (.aload_n 0, 1) := by decide +kernel
theorem dX8_isFree_26 : decode cX8_isFree 26 = .ok (.getfield 9, 3) := by decide +kernel
theorem dX8_isFree_29 : decode cX8_isFree 29 = .ok (.iload 4, 2) := by decide +kernel
theorem dX8_isFree_3 : decode cX8_isFree 3 = .ok (.iload 4, 2) := by decide +kernel
theorem dX8_isFree_31 : decode cX8_isFree 31 = .ok (.iaload, 1) := by decide +kernel
theorem dX8_isFree_32 : decode cX8_isFree 32 = .ok (.invokevirtual 47, 3) := by decide +kernel
theorem dX8_isFree_35 : decode cX8_isFree 35 = .ok (.ifCond .eq 5, 3) := by decide +kernel
theorem dX8_isFree_38 : decode cX8_isFree 38 = .ok (.iconst 0, 1) := by decide +kernel
theorem dX8_isFree_39 : decode cX8_isFree 39 = .ok (.ireturn, 1) := by decide +kernel
theorem dX8_isFree_40 : decode cX8_isFree 40 = .ok (.iinc 4 1, 3) := by decide +kernel
theorem dX8_isFree_43 : decode cX8_isFree 43 = .ok (.goto (-40), 3) := by decide +kernel
theorem dX8_isFree_46 : decode cX8_isFree 46 = .ok (.iconst 1, 1) := by decide +kernel
theorem dX8_isFree_47 : decode cX8_isFree 47 = .ok (.ireturn, 1) := by decide +kernel
theorem dX8_isFree_5 : decode cX8_isFree 5 = .ok (.iload_n 2, 1) := by decide +kernel
theorem dX8_isFree_6 : decode cX8_isFree 6 = .ok (.if_icmp .ge 40, 3) := by decide +kernel
theorem dX8_isFree_9 : decode cX8_isFree 9 = .ok (.aload_n 0, 1) := by decide +kernel
def vX8_isFree : List Cond := .code yX8_isFree cX8_isFree 5 (some .boolean) :: ([.fieldLink RX8 9 "HookPier$Seats" "row" "[I", .methodLink RX8 47 yX6_isTangle, .instanceMethod yX6_isTangle, .selects RX6 yX6_isTangle yX6_isTangle, .initialized RX6, .code yX6_isTangle cX6_isTangle 5 (some .boolean), .methodLink RX6 89 Lib.Math.abs.name, .static Lib.Math.abs.name, .initialized "java/lang/Math", .code Lib.Math.abs.name Lib.Math.abs.code 1 (some .int), .fieldLink RX6 39 "HookPier$Plan" "reach" "[I"] ++ wsX80 ++ wsX60)
theorem iX8_isFree_X8 : ∀ w ∈ wsX80, w ∈ vX8_isFree := fun _ h => List.mem_cons_of_mem _ (List.mem_append_left _ (List.mem_append_right _ h))
theorem iX8_isFree_X6 : ∀ w ∈ wsX60, w ∈ vX8_isFree := fun _ h => List.mem_cons_of_mem _ (List.mem_append_right _ h)
set_option maxRecDepth 20000 in
theorem gX8_isFree_0 : GoodIn vX8_isFree (wsV RX8 47 RX6 yX6_isTangle vX6_isTangle) := goodIn_app (goodIn_r [.methodLink RX8 47 yX6_isTangle, .instanceMethod yX6_isTangle, .selects RX6 yX6_isTangle yX6_isTangle, .initialized RX6] [2, 3, 4, 5] (by decide +kernel) (by decide +kernel)) (goodIn_ca (goodIn_r (.code yX6_isTangle cX6_isTangle 5 (some .boolean) :: [.methodLink RX6 89 Lib.Math.abs.name, .static Lib.Math.abs.name, .initialized "java/lang/Math", .code Lib.Math.abs.name Lib.Math.abs.code 1 (some .int), .fieldLink RX6 39 "HookPier$Plan" "reach" "[I"]) [6, 7, 8, 9, 10, 11] (by decide +kernel) (by decide +kernel) : GoodIn vX8_isFree (.code yX6_isTangle cX6_isTangle 5 (some .boolean) :: [.methodLink RX6 89 Lib.Math.abs.name, .static Lib.Math.abs.name, .initialized "java/lang/Math", .code Lib.Math.abs.name Lib.Math.abs.code 1 (some .int), .fieldLink RX6 39 "HookPier$Plan" "reach" "[I"])) (goodIn_sub iX8_isFree_X6 (by decide +kernel)))
set_option maxHeartbeats 2000000 in
set_option maxRecDepth 100000 in
theorem kX8_isFree (l : Launch) (dC : Nat → ClassId) (dI : Nat → Nat → Nat) (a0 : Nat) (a1 : Nat) (k2 : Int32) (k3 : Int32) (a4 : Nat) (a5 : Nat) (g6 : Value) (g7 : Value) (g8 : Value) (g9 : Value) (g10 : Value) (g11 : Value) (g12 : Value) (g13 : Value) (g14 : Value) (g15 : Value) (g16 : Value) (g17 : Value) (g18 : Value) (g19 : Value) (g20 : Value) (g21 : Value) (g22 : Value) (g23 : Value) (g24 : Value) (cB25 : ClassId) (f26 : Nat → Int32) (cB27 : ClassId) (f28 : Nat → Int32) (hk2 : (0 ≤ k2.toInt ∧ k2.toInt ≤ 4)) (sz : Nat) : Met l yX8_isFree vX8_isFree ({ frames := 2, cells := 0, slots := 0, locals := 45 }) (PC (dC, dI) [.ref a0, .ref a1, .int k2, .int k3] sz [(a0, .inr (6, [.ref a4, g6, g7])), (a1, .inr (4, [g8, g9, g10, g11, g12, g13, g14, g15, g16, .ref a5, g17, g18, g19, g20, g21, g22, g23, g24])), (a4, .inl (cB25, 5, .inl f26)), (a5, .inl (cB27, 5, .inl f28))] [(cB25, .int), (cB27, .int)]) (va_Qi (S := Unit) (fun (r : Int32) _ => (0 ≤ r.toInt ∧ r.toInt ≤ 1)) (fun _ t => BC (dC, dI) (va_A [(a0, .inr (6, [.ref a4, g6, g7])), (a1, .inr (4, [g8, g9, g10, g11, g12, g13, g14, g15, g16, .ref a5, g17, g18, g19, g20, g21, g22, g23, g24])), (a4, .inl (cB25, 5, .inl f26)), (a5, .inl (cB27, 5, .inl f28))] sz) [(a0, .inr (6, [.ref a4, g6, g7])), (a1, .inr (4, [g8, g9, g10, g11, g12, g13, g14, g15, g16, .ref a5, g17, g18, g19, g20, g21, g22, g23, g24])), (a4, .inl (cB25, 5, .inl f26)), (a5, .inl (cB27, 5, .inl f28))] [] t) (va_A [(a0, .inr (6, [.ref a4, g6, g7])), (a1, .inr (4, [g8, g9, g10, g11, g12, g13, g14, g15, g16, .ref a5, g17, g18, g19, g20, g21, g22, g23, g24])), (a4, .inl (cB25, 5, .inl f26)), (a5, .inl (cB27, 5, .inl f28))] sz)) 0 0 (va_A [(a0, .inr (6, [.ref a4, g6, g7])), (a1, .inr (4, [g8, g9, g10, g11, g12, g13, g14, g15, g16, .ref a5, g17, g18, g19, g20, g21, g22, g23, g24])), (a4, .inl (cB25, 5, .inl f26)), (a5, .inl (cB27, 5, .inl f28))] sz) := by
  refine Met.ofW (cc := cX8_isFree) (maxL := 5) (ret := (some .boolean)) (by decide) rfl ?_
  intro p e s m args below meth c s₁ B hml hv
  obtain ⟨rfl, hsz, hP, hK, hD0, hN⟩ := hv
  have hx := B.exec
  have hb := B.bytes
  have hr := B.returns
  have hts := atoms_spec (ws := vX8_isFree) B.pre
  have hown : s.vm.findClass RX8 = some m.cls := findClass_of_methodNamed B.named
  have hlocks := B.notSynchronized
  subst hsz
  have hD := hD0.self (sz := s.heap.size)
  generalize hAe : va_A [(a0, .inr (6, [.ref a4, g6, g7])), (a1, .inr (4, [g8, g9, g10, g11, g12, g13, g14, g15, g16, .ref a5, g17, g18, g19, g20, g21, g22, g23, g24])), (a4, .inl (cB25, 5, .inl f26)), (a5, .inl (cB27, 5, .inl f28))] s.heap.size = A at hD ⊢
  have hA : ∀ q : Nat, s.heap.size ≤ q → A q := fun q h => by rw [← hAe]; exact Or.inr h
  have hS : va_S A s.heap s.heap [] := va_S.rf
  have hP : va_P (dC, dI) vwCl [(a0, .inr (6, [.ref a4, g6, g7])), (a1, .inr (4, [g8, g9, g10, g11, g12, g13, g14, g15, g16, .ref a5, g17, g18, g19, g20, g21, g22, g23, g24])), (a4, .inl (cB25, 5, .inl f26)), (a5, .inl (cB27, 5, .inl f28))] s.heap := hP
  have hl := lv_entry ([.ref a0, .ref a1, .int k2, .int k3]) (n := 5) (Nat.le_of_ble_eq_true rfl)
  rw [lg_entry_eq]
  generalize (lg_sl ([.ref a0, .ref a1, .int k2, .int k3]) ++ List.replicate (5 - (lg_sl ([.ref a0, .ref a1, .int k2, .int k3])).length) Slot.unset).toArray = ls at hl ⊢
  have hl : lv_has ls 5 [(0, .ref a0), (1, .ref a1), (2, .int k2), (3, .int k3)] := hl
  refine lv_iconst (v := 0) hx hb dX8_isFree_0 (by decide) ?_
  refine lv_istore (lv' := [(4, .int 0), (0, .ref a0), (1, .ref a1), (2, .int k2), (3, .int k3)]) hx hb dX8_isFree_1 hl (by decide) rfl (fun ls hl => ?_)
  have L3_40 : ∀ (n : Nat) (z39 : Int32) (H : Heap) (locs : List Loc) (ls : Array Slot), (0 ≤ z39.toInt ∧ z39.toInt ≤ 4) → 4 - z39.toInt < (n : Int) → va_P (dC, dI) vwCl [(a0, .inr (6, [.ref a4, g6, g7])), (a1, .inr (4, [g8, g9, g10, g11, g12, g13, g14, g15, g16, .ref a5, g17, g18, g19, g20, g21, g22, g23, g24])), (a4, .inl (cB25, 5, .inl f26)), (a5, .inl (cB27, 5, .inl f28))] H → va_D A [(a0, .inr (6, [.ref a4, g6, g7])), (a1, .inr (4, [g8, g9, g10, g11, g12, g13, g14, g15, g16, .ref a5, g17, g18, g19, g20, g21, g22, g23, g24])), (a4, .inl (cB25, 5, .inl f26)), (a5, .inl (cB27, 5, .inl f28))] → va_S A s.heap H locs → lv_has ls 5 [(4, .int z39), (0, .ref a0), (1, .ref a1), (2, .int k2), (3, .int k3)] → W p l e (headSpec vX8_isFree { frames := 2, cells := 0, slots := 0, locals := 45 }).room s m ([.ref a0, .ref a1, .int k2, .int k3]).toArray below meth c H locs 0 0 (MQ below (va_Qi (S := Unit) (fun (r : Int32) _ => (0 ≤ r.toInt ∧ r.toInt ≤ 1)) (fun _ t => BC (dC, dI) A [(a0, .inr (6, [.ref a4, g6, g7])), (a1, .inr (4, [g8, g9, g10, g11, g12, g13, g14, g15, g16, .ref a5, g17, g18, g19, g20, g21, g22, g23, g24])), (a4, .inl (cB25, 5, .inl f26)), (a5, .inl (cB27, 5, .inl f28))] [] t) A) ([.ref a0, .ref a1, .int k2, .int k3]).toArray s 0 0 A) (F0 m 3 ls []) := by
    intro n
    induction n with
    | zero =>
      intro z39 H locs ls b3_0 hm _ _ _ _
      exact absurd hm (by omega)
    | succ n ih3 =>
      intro z39 H locs ls b3_0 hm3 hP hD hS hl
      refine lv_iload hx hb dX8_isFree_3 (lv_at hl 0 rfl) ?_
      refine lv_iload_n hx hb dX8_isFree_5 rfl (lv_at hl 3 rfl) ?_
      refine lv_icmp_ge (tgt := 46) hx hb dX8_isFree_6 (by decide) (fun c41 => ?_) (fun c41 => ?_)
      · simp only [fa_lt, fa_le, fa_eq, ltv_0] at c41
        refine lv_iconst (v := 1) hx hb dX8_isFree_46 (by decide) ?_
        have hP9 := hP.sub (ws' := [(a0, .inr (6, [.ref a4, g6, g7])), (a1, .inr (4, [g8, g9, g10, g11, g12, g13, g14, g15, g16, .ref a5, g17, g18, g19, g20, g21, g22, g23, g24])), (a4, .inl (cB25, 5, .inl f26)), (a5, .inl (cB27, 5, .inl f28))]) [0, 1, 2, 3] rfl
        have hD9 := hD.sub (ws' := [(a0, .inr (6, [.ref a4, g6, g7])), (a1, .inr (4, [g8, g9, g10, g11, g12, g13, g14, g15, g16, .ref a5, g17, g18, g19, g20, g21, g22, g23, g24])), (a4, .inl (cB25, 5, .inl f26)), (a5, .inl (cB27, 5, .inl f28))]) [0, 1, 2, 3] (by decide) rfl
        have hK9 := hK.sub (tys' := []) [] rfl
        exact W.zret (v := 1) hx hb hr rfl (fun t ht hW => ⟨⟨1, (), rfl, (by first | trivial | omega | (simp only [ltv_0, ltv_1]; omega)), by rw [ht]; exact hP9, va_K.moved hW.alike hK9, hD9⟩, hS.F ht⟩) hS.2.2 dX8_isFree_47
      · simp only [fa_lt, fa_le, fa_eq, ltv_0] at c41
        refine lv_aload_n hx hb dX8_isFree_9 rfl (lv_at hl 1 rfl) ?_
        refine va_get (D := (dC, dI)) (ci := 6) (v := .ref a4) (C := RX8) (T := TX8) (N := 3) hx hb hts iX8_isFree_X8 hown hK hP 0 rfl rfl 0 (by decide) (hts (.fieldLink RX8 9 "HookPier$Seats" "row" "[I") (List.mem_of_getElem? (i := 1) rfl)) (fun _ h9 => h9) rfl dX8_isFree_10 ?_
        refine lv_iload hx hb dX8_isFree_13 (lv_at hl 0 rfl) ?_
        refine va_iald hx hb hK hP 2 0 rfl rfl (vp_in_iff.mpr (by omega)) dX8_isFree_15 ?_
        refine lv_topi (fun z42 ez42 => ?_)
        clear ez42
        refine lv_iconst (v := (-1)) hx hb dX8_isFree_16 (by decide) ?_
        refine lv_icmp_eq (tgt := 40) hx hb dX8_isFree_17 (by decide) (fun c43 => ?_) (fun c43 => ?_)
        · simp only [fa_lt, fa_le, fa_eq, ltv_m1, ltv_0] at c43
          obtain ⟨z44, ez44⟩ : ∃ y : Int32, y = z39 + 1 := ⟨_, rfl⟩
          have tz44 : z44.toInt = z39.toInt + 1 := by rw [ez44, iadd_t (by simp only [ltv_1]; omega) (by simp only [ltv_1]; omega)]; simp only [ltv_1]
          refine lv_iinc (v := z44) (lv' := [(4, .int z44), (0, .ref a0), (1, .ref a1), (2, .int k2), (3, .int k3)]) hx hb dX8_isFree_40 hl (k := 0) rfl (by rw [ez44]; rfl) (by decide) rfl (fun ls hl => ?_)
          refine lv_goto (tgt := 3) hx hb dX8_isFree_43 (by decide) ?_
          exact ih3 z44 H locs ls (by first | omega | (simp only [ltv_0]; omega)) (by first | omega | (simp only [ltv_0]; omega)) hP hD hS (lv_sub hl [0, 1, 2, 3, 4] rfl)
        · simp only [fa_lt, fa_le, fa_eq, ltv_m1, ltv_0] at c43
          refine lv_aload_n hx hb dX8_isFree_20 rfl (lv_at hl 2 rfl) ?_
          refine lv_iload_n hx hb dX8_isFree_21 rfl (lv_at hl 3 rfl) ?_
          refine lv_iload_n hx hb dX8_isFree_22 rfl (lv_at hl 4 rfl) ?_
          refine lv_iload hx hb dX8_isFree_23 (lv_at hl 0 rfl) ?_
          refine lv_aload_n hx hb dX8_isFree_25 rfl (lv_at hl 1 rfl) ?_
          refine va_get (D := (dC, dI)) (ci := 6) (v := .ref a4) (C := RX8) (T := TX8) (N := 3) hx hb hts iX8_isFree_X8 hown hK hP 0 rfl rfl 0 (by decide) (hts (.fieldLink RX8 9 "HookPier$Seats" "row" "[I") (List.mem_of_getElem? (i := 1) rfl)) (fun _ h9 => h9) rfl dX8_isFree_26 ?_
          refine lv_iload hx hb dX8_isFree_29 (lv_at hl 0 rfl) ?_
          refine va_iald hx hb hK hP 2 0 rfl rfl (vp_in_iff.mpr (by omega)) dX8_isFree_31 ?_
          refine lv_topi (fun z45 ez45 => ?_)
          clear ez45
          refine cl_i (wc := [(a1, .inr (4, [g8, g9, g10, g11, g12, g13, g14, g15, g16, .ref a5, g17, g18, g19, g20, g21, g22, g23, g24])), (a5, .inl (cB27, 5, .inl f28))]) (wr := [(a0, .inr (6, [.ref a4, g6, g7])), (a4, .inl (cB25, 5, .inl f26))]) (va_runV (As := [.int k2, .int k3, .int z39, .int z45]) (rest := []) ⟨hx, hb, hml, hown, hts⟩ (kX6_isTangle l dC dI a1 k2 k3 z39 z45 a5 (g8) (g9) (g10) (g11) (g12) (g13) (g14) (g15) (g16) (g17) (g18) (g19) (g20) (g21) (g22) (g23) (g24) cB27 f28 (by first | omega | (simp only [ltv_0]; omega)) (by first | omega | (simp only [ltv_0]; omega)) H.size) (cwV 4 hts gX8_isFree_0 rfl rfl rfl (by decide +kernel) ⟨Nat.le_of_ble_eq_true rfl, Nat.le_of_ble_eq_true rfl⟩) (PV (hP.sub (ws' := [(a1, .inr (4, [g8, g9, g10, g11, g12, g13, g14, g15, g16, .ref a5, g17, g18, g19, g20, g21, g22, g23, g24])), (a5, .inl (cB27, 5, .inl f28))]) [1, 3] rfl) (hK.sub (tys' := [(cB27, .int)]) [1] rfl) (hD.sub (ws' := [(a1, .inr (4, [g8, g9, g10, g11, g12, g13, g14, g15, g16, .ref a5, g17, g18, g19, g20, g21, g22, g23, g24])), (a5, .inl (cB27, 5, .inl f28))]) [1, 3] (by decide) rfl) hN 0 rfl rfl) rfl rfl hl.1 rfl (lv_room (Nat.le_of_ble_eq_true rfl)) dX8_isFree_32 ⟨Nat.le_of_ble_eq_true rfl, Nat.le_of_ble_eq_true rfl⟩) hP hD hK hS hA [1, 3] [0, 2] rfl rfl (by decide) (by decide) (fun z46 _u H locs hw hP hD hK hS => ?_)
          have b47 := hw
          have hP : va_P (dC, dI) vwCl [(a0, .inr (6, [.ref a4, g6, g7])), (a4, .inl (cB25, 5, .inl f26)), (a1, .inr (4, [g8, g9, g10, g11, g12, g13, g14, g15, g16, .ref a5, g17, g18, g19, g20, g21, g22, g23, g24])), (a5, .inl (cB27, 5, .inl f28))] H := hP
          have hD : va_D A [(a0, .inr (6, [.ref a4, g6, g7])), (a4, .inl (cB25, 5, .inl f26)), (a1, .inr (4, [g8, g9, g10, g11, g12, g13, g14, g15, g16, .ref a5, g17, g18, g19, g20, g21, g22, g23, g24])), (a5, .inl (cB27, 5, .inl f28))] := hD
          have hK : va_K (dC, dI) vwCl [(cB25, .int), (cB27, .int)] s := hK
          refine lv_if_eq (tgt := 40) hx hb dX8_isFree_35 (by decide) (fun c48 => ?_) (fun c48 => ?_)
          · simp only [fa_lt, fa_le, fa_eq, ltv_0] at c48
            obtain ⟨z49, ez49⟩ : ∃ y : Int32, y = z39 + 1 := ⟨_, rfl⟩
            have tz49 : z49.toInt = z39.toInt + 1 := by rw [ez49, iadd_t (by simp only [ltv_1]; omega) (by simp only [ltv_1]; omega)]; simp only [ltv_1]
            refine lv_iinc (v := z49) (lv' := [(4, .int z49), (0, .ref a0), (1, .ref a1), (2, .int k2), (3, .int k3)]) hx hb dX8_isFree_40 hl (k := 0) rfl (by rw [ez49]; rfl) (by decide) rfl (fun ls hl => ?_)
            refine lv_goto (tgt := 3) hx hb dX8_isFree_43 (by decide) ?_
            exact ih3 z49 H locs ls (by first | omega | (simp only [ltv_0]; omega)) (by first | omega | (simp only [ltv_0]; omega)) (hP.sub (ws' := [(a0, .inr (6, [.ref a4, g6, g7])), (a1, .inr (4, [g8, g9, g10, g11, g12, g13, g14, g15, g16, .ref a5, g17, g18, g19, g20, g21, g22, g23, g24])), (a4, .inl (cB25, 5, .inl f26)), (a5, .inl (cB27, 5, .inl f28))]) [0, 2, 1, 3] rfl) (hD.sub (ws' := [(a0, .inr (6, [.ref a4, g6, g7])), (a1, .inr (4, [g8, g9, g10, g11, g12, g13, g14, g15, g16, .ref a5, g17, g18, g19, g20, g21, g22, g23, g24])), (a4, .inl (cB25, 5, .inl f26)), (a5, .inl (cB27, 5, .inl f28))]) [0, 2, 1, 3] (by decide) rfl) hS (lv_sub hl [0, 1, 2, 3, 4] rfl)
          · simp only [fa_lt, fa_le, fa_eq, ltv_0] at c48
            refine lv_iconst (v := 0) hx hb dX8_isFree_38 (by decide) ?_
            have hP9 := hP.sub (ws' := [(a0, .inr (6, [.ref a4, g6, g7])), (a1, .inr (4, [g8, g9, g10, g11, g12, g13, g14, g15, g16, .ref a5, g17, g18, g19, g20, g21, g22, g23, g24])), (a4, .inl (cB25, 5, .inl f26)), (a5, .inl (cB27, 5, .inl f28))]) [0, 2, 1, 3] rfl
            have hD9 := hD.sub (ws' := [(a0, .inr (6, [.ref a4, g6, g7])), (a1, .inr (4, [g8, g9, g10, g11, g12, g13, g14, g15, g16, .ref a5, g17, g18, g19, g20, g21, g22, g23, g24])), (a4, .inl (cB25, 5, .inl f26)), (a5, .inl (cB27, 5, .inl f28))]) [0, 2, 1, 3] (by decide) rfl
            have hK9 := hK.sub (tys' := []) [] rfl
            exact W.zret (v := 0) hx hb hr rfl (fun t ht hW => ⟨⟨0, (), rfl, (by first | trivial | omega | (simp only [ltv_0]; omega)), by rw [ht]; exact hP9, va_K.moved hW.alike hK9, hD9⟩, hS.F ht⟩) hS.2.2 dX8_isFree_39
  exact L3_40 5 (0) s.heap _ ls (by first | omega | (simp only [ltv_0]; omega)) (by first | omega | (simp only [ltv_0]; omega)) hP hD hS (lv_sub hl [0, 1, 2, 3, 4] rfl)
theorem dX8_fill_0 : decode cX8_fill 0 = .ok (.iload_n 2, 1) := by decide +kernel
theorem dX8_fill_1 : decode cX8_fill 1 = .ok (.aload_n 1, 1) := by decide +kernel
theorem dX8_fill_17 : decode cX8_fill 17 = .ok (.aload_n 0, 1) := by decide +kernel
theorem dX8_fill_18 : decode cX8_fill 18 = .ok (.invokevirtual 31, 3) := by decide +kernel
theorem dX8_fill_2 : decode cX8_fill 2 = .ok (.getfield 26, 3) := by decide +kernel
theorem dX8_fill_21 : decode cX8_fill 21 = .ok (.return_, 1) := by decide +kernel
theorem dX8_fill_5 : decode cX8_fill 5 = .ok (.if_icmp .ge 12, 3) := by decide +kernel
def vX8_fill_s5 : List Cond := .code yX8_fill cX8_fill 6 none :: ([.fieldLink RX8 26 "HookPier$Plan" "askers" "I", .methodLink RX8 31 yX8_keepRow, .instanceMethod yX8_keepRow, .selects RX8 yX8_keepRow yX8_keepRow, .initialized RX8, .code yX8_keepRow cX8_keepRow 1 none, .fieldLink RX8 18 "HookPier$Seats" "found" "I", .fieldLink RX8 9 "HookPier$Seats" "row" "[I", .fieldLink RX8 15 "HookPier$Seats" "first" "[I", .methodLink RX8 41 arraycopyName, .native arraycopyName, .static arraycopyName, .initialized "java/lang/System"] ++ wsX60 ++ wsX80)
theorem iX8_fill_s5_X6 : ∀ w ∈ wsX60, w ∈ vX8_fill_s5 := fun _ h => List.mem_cons_of_mem _ (List.mem_append_left _ (List.mem_append_right _ h))
theorem iX8_fill_s5_X8 : ∀ w ∈ wsX80, w ∈ vX8_fill_s5 := fun _ h => List.mem_cons_of_mem _ (List.mem_append_right _ h)
set_option maxRecDepth 20000 in
theorem gX8_fill_s5_0 : GoodIn vX8_fill_s5 (wsV RX8 31 RX8 yX8_keepRow vX8_keepRow) := goodIn_app (goodIn_r [.methodLink RX8 31 yX8_keepRow, .instanceMethod yX8_keepRow, .selects RX8 yX8_keepRow yX8_keepRow, .initialized RX8] [2, 3, 4, 5] (by decide +kernel) (by decide +kernel)) (goodIn_ca (goodIn_r (.code yX8_keepRow cX8_keepRow 1 none :: [.fieldLink RX8 18 "HookPier$Seats" "found" "I", .fieldLink RX8 9 "HookPier$Seats" "row" "[I", .fieldLink RX8 15 "HookPier$Seats" "first" "[I", .methodLink RX8 41 arraycopyName, .native arraycopyName, .static arraycopyName, .initialized "java/lang/System"]) [6, 7, 8, 9, 10, 11, 12, 13] (by decide +kernel) (by decide +kernel) : GoodIn vX8_fill_s5 (.code yX8_keepRow cX8_keepRow 1 none :: [.fieldLink RX8 18 "HookPier$Seats" "found" "I", .fieldLink RX8 9 "HookPier$Seats" "row" "[I", .fieldLink RX8 15 "HookPier$Seats" "first" "[I", .methodLink RX8 41 arraycopyName, .native arraycopyName, .static arraycopyName, .initialized "java/lang/System"])) (goodIn_sub iX8_fill_s5_X8 (by decide +kernel)))
set_option maxHeartbeats 2000000 in
set_option maxRecDepth 100000 in
theorem kX8_fill_s5 (l : Launch) (dC : Nat → ClassId) (dI : Nat → Nat → Nat) (a0 : Nat) (a1 : Nat) (k2 : Int32) (k3 : Int32) (a4 : Nat) (a5 : Nat) (k6 : Int32) (g7 : Value) (g8 : Value) (g9 : Value) (g10 : Value) (g11 : Value) (k12 : Int32) (g13 : Value) (g14 : Value) (g15 : Value) (g16 : Value) (g17 : Value) (g18 : Value) (g19 : Value) (g20 : Value) (g21 : Value) (g22 : Value) (g23 : Value) (g24 : Value) (cB25 : ClassId) (f26 : Nat → Int32) (cB27 : ClassId) (f28 : Nat → Int32) (hk12 : (0 ≤ k12.toInt ∧ k12.toInt ≤ 5)) (sz : Nat) : Met l yX8_fill vX8_fill_s5 ({ frames := 2, cells := 0, slots := 0, locals := 60 }) (PC (dC, dI) [.ref a0, .ref a1, .int 5, .int k2, .int k3] sz [(a0, .inr (6, [.ref a4, .ref a5, .int k6])), (a1, .inr (4, [g7, g8, g9, g10, g11, .int k12, g13, g14, g15, g16, g17, g18, g19, g20, g21, g22, g23, g24])), (a4, .inl (cB25, 5, .inl f26)), (a5, .inl (cB27, 5, .inl f28))] [(cB25, .int), (cB27, .int)]) (va_Qv (S := Int32 × (Nat → Int32)) (fun u => True) (fun u t => BC (dC, dI) (va_A [(a0, .inr (6, [.ref a4, .ref a5, .int k6])), (a1, .inr (4, [g7, g8, g9, g10, g11, .int k12, g13, g14, g15, g16, g17, g18, g19, g20, g21, g22, g23, g24])), (a4, .inl (cB25, 5, .inl f26)), (a5, .inl (cB27, 5, .inl f28))] sz) [(a0, .inr (6, [.ref a4, .ref a5, .int (u.1)])), (a1, .inr (4, [g7, g8, g9, g10, g11, .int k12, g13, g14, g15, g16, g17, g18, g19, g20, g21, g22, g23, g24])), (a4, .inl (cB25, 5, .inl f26)), (a5, .inl (cB27, 5, .inl (u.2)))] [] t) (va_A [(a0, .inr (6, [.ref a4, .ref a5, .int k6])), (a1, .inr (4, [g7, g8, g9, g10, g11, .int k12, g13, g14, g15, g16, g17, g18, g19, g20, g21, g22, g23, g24])), (a4, .inl (cB25, 5, .inl f26)), (a5, .inl (cB27, 5, .inl f28))] sz)) 0 0 (va_A [(a0, .inr (6, [.ref a4, .ref a5, .int k6])), (a1, .inr (4, [g7, g8, g9, g10, g11, .int k12, g13, g14, g15, g16, g17, g18, g19, g20, g21, g22, g23, g24])), (a4, .inl (cB25, 5, .inl f26)), (a5, .inl (cB27, 5, .inl f28))] sz) := by
  refine Met.ofW (cc := cX8_fill) (maxL := 6) (ret := none) (by decide) rfl ?_
  intro p e s m args below meth c s₁ B hml hv
  obtain ⟨rfl, hsz, hP, hK, hD0, hN⟩ := hv
  have hx := B.exec
  have hb := B.bytes
  have hr := B.returns
  have hts := atoms_spec (ws := vX8_fill_s5) B.pre
  have hown : s.vm.findClass RX8 = some m.cls := findClass_of_methodNamed B.named
  have hlocks := B.notSynchronized
  subst hsz
  have hD := hD0.self (sz := s.heap.size)
  generalize hAe : va_A [(a0, .inr (6, [.ref a4, .ref a5, .int k6])), (a1, .inr (4, [g7, g8, g9, g10, g11, .int k12, g13, g14, g15, g16, g17, g18, g19, g20, g21, g22, g23, g24])), (a4, .inl (cB25, 5, .inl f26)), (a5, .inl (cB27, 5, .inl f28))] s.heap.size = A at hD ⊢
  have hA : ∀ q : Nat, s.heap.size ≤ q → A q := fun q h => by rw [← hAe]; exact Or.inr h
  have hS : va_S A s.heap s.heap [] := va_S.rf
  have hP : va_P (dC, dI) vwCl [(a0, .inr (6, [.ref a4, .ref a5, .int k6])), (a1, .inr (4, [g7, g8, g9, g10, g11, .int k12, g13, g14, g15, g16, g17, g18, g19, g20, g21, g22, g23, g24])), (a4, .inl (cB25, 5, .inl f26)), (a5, .inl (cB27, 5, .inl f28))] s.heap := hP
  have hl := lv_entry ([.ref a0, .ref a1, .int 5, .int k2, .int k3]) (n := 6) (Nat.le_of_ble_eq_true rfl)
  rw [lg_entry_eq]
  generalize (lg_sl ([.ref a0, .ref a1, .int 5, .int k2, .int k3]) ++ List.replicate (6 - (lg_sl ([.ref a0, .ref a1, .int 5, .int k2, .int k3])).length) Slot.unset).toArray = ls at hl ⊢
  have hl : lv_has ls 6 [(0, .ref a0), (1, .ref a1), (2, .int 5), (3, .int k2), (4, .int k3)] := hl
  refine lv_iload_n hx hb dX8_fill_0 rfl (lv_at hl 2 rfl) ?_
  refine lv_aload_n hx hb dX8_fill_1 rfl (lv_at hl 1 rfl) ?_
  refine va_get (D := (dC, dI)) (ci := 4) (v := .int k12) (C := RX6) (T := TX6) (N := 18) hx hb hts iX8_fill_s5_X6 hown hK hP 1 rfl rfl 5 (by decide) (hts (.fieldLink RX8 26 "HookPier$Plan" "askers" "I") (List.mem_of_getElem? (i := 1) rfl)) (fun _ h9 => h9) rfl dX8_fill_2 ?_
  refine lv_icmp_ge (tgt := 17) hx hb dX8_fill_5 (by decide) (fun _ => ?_) (fun c1 => False.elim (by simp only [fa_lt, fa_le, fa_eq, ltv_0, ltv_5] at c1; omega))
  refine lv_aload_n hx hb dX8_fill_17 rfl (lv_at hl 0 rfl) ?_
  refine cl_v (wc := [(a0, .inr (6, [.ref a4, .ref a5, .int k6])), (a4, .inl (cB25, 5, .inl f26)), (a5, .inl (cB27, 5, .inl f28))]) (wr := [(a1, .inr (4, [g7, g8, g9, g10, g11, .int k12, g13, g14, g15, g16, g17, g18, g19, g20, g21, g22, g23, g24]))]) (va_runV (As := []) (rest := []) ⟨hx, hb, hml, hown, hts⟩ (kX8_keepRow l dC dI a0 a4 a5 k6 cB25 f26 cB27 f28  s.heap.size) (cwV 0 hts gX8_fill_s5_0 rfl rfl rfl (by decide +kernel) ⟨Nat.le_of_ble_eq_true rfl, Nat.le_of_ble_eq_true rfl⟩) (PV (hP.sub (ws' := [(a0, .inr (6, [.ref a4, .ref a5, .int k6])), (a4, .inl (cB25, 5, .inl f26)), (a5, .inl (cB27, 5, .inl f28))]) [0, 2, 3] rfl) (hK.sub (tys' := [(cB25, .int), (cB27, .int)]) [0, 1] rfl) (hD.sub (ws' := [(a0, .inr (6, [.ref a4, .ref a5, .int k6])), (a4, .inl (cB25, 5, .inl f26)), (a5, .inl (cB27, 5, .inl f28))]) [0, 2, 3] (by decide) rfl) hN 0 rfl rfl) rfl rfl hl.1 rfl (lv_room (Nat.le_of_ble_eq_true rfl)) dX8_fill_18 ⟨Nat.le_of_ble_eq_true rfl, Nat.le_of_ble_eq_true rfl⟩) hP hD hK hS hA [0, 2, 3] [1] rfl rfl (by decide) (by decide) (fun u H locs hw hP hD hK hS => ?_)
  obtain ⟨z2, f3⟩ := u
  have b4 := hw
  have hP : va_P (dC, dI) vwCl [(a1, .inr (4, [g7, g8, g9, g10, g11, .int k12, g13, g14, g15, g16, g17, g18, g19, g20, g21, g22, g23, g24])), (a0, .inr (6, [.ref a4, .ref a5, .int z2])), (a4, .inl (cB25, 5, .inl f26)), (a5, .inl (cB27, 5, .inl f3))] H := hP
  have hD : va_D A [(a1, .inr (4, [g7, g8, g9, g10, g11, .int k12, g13, g14, g15, g16, g17, g18, g19, g20, g21, g22, g23, g24])), (a0, .inr (6, [.ref a4, .ref a5, .int z2])), (a4, .inl (cB25, 5, .inl f26)), (a5, .inl (cB27, 5, .inl f3))] := hD
  have hK : va_K (dC, dI) vwCl [(cB25, .int), (cB27, .int)] s := hK
  have hP9 := hP.sub (ws' := [(a0, .inr (6, [.ref a4, .ref a5, .int z2])), (a1, .inr (4, [g7, g8, g9, g10, g11, .int k12, g13, g14, g15, g16, g17, g18, g19, g20, g21, g22, g23, g24])), (a4, .inl (cB25, 5, .inl f26)), (a5, .inl (cB27, 5, .inl f3))]) [1, 0, 2, 3] rfl
  have hD9 := hD.sub (ws' := [(a0, .inr (6, [.ref a4, .ref a5, .int z2])), (a1, .inr (4, [g7, g8, g9, g10, g11, .int k12, g13, g14, g15, g16, g17, g18, g19, g20, g21, g22, g23, g24])), (a4, .inl (cB25, 5, .inl f26)), (a5, .inl (cB27, 5, .inl f3))]) [1, 0, 2, 3] (by decide) rfl
  have hK9 := hK.sub (tys' := []) [] rfl
  exact W.vret hx hb hr (fun t ht hW => ⟨⟨(z2, f3), rfl, trivial, by rw [ht]; exact hP9, va_K.moved hW.alike hK9, hD9⟩, hS.F ht⟩) hS.2.2 dX8_fill_21
theorem dX8_fill_10 : decode cX8_fill 10 = .ok (.getfield 9, 3) := by decide +kernel
theorem dX8_fill_100 : decode cX8_fill 100 = .ok (.iinc 5 1, 3) := by decide +kernel
theorem dX8_fill_103 : decode cX8_fill 103 = .ok (.goto (-51), 3) := by decide +kernel
theorem dX8_fill_106 : decode cX8_fill 106 = .ok (.return_, 1) := by decide +kernel
theorem dX8_fill_13 : decode cX8_fill 13 = .ok (.arraylength, 1) := by decide +kernel
theorem dX8_fill_14 : decode cX8_fill 14 = .ok (.if_icmp .lt 8, 3) := by decide +kernel
theorem dX8_fill_22 : decode cX8_fill 22 = .ok (.iload_n 3, 1) := by decide +kernel
theorem dX8_fill_23 : decode cX8_fill 23 = .ok (.iload_n 2, 1) := by decide +kernel
theorem dX8_fill_24 : decode cX8_fill 24 = .ok (.ishr, 1) := by decide +kernel
theorem dX8_fill_25 : decode cX8_fill 25 = .ok (.iconst 1, 1) := by decide +kernel
theorem dX8_fill_26 : decode cX8_fill 26 = .ok (.iand, 1) := by decide +kernel
theorem dX8_fill_27 : decode cX8_fill 27 = .ok (.ifCond .ne 22, 3) := by decide +kernel
theorem dX8_fill_30 : decode cX8_fill 30 = .ok (.aload_n 0, 1) := by decide +kernel
theorem dX8_fill_31 : decode cX8_fill 31 = .ok (.getfield 9, 3) := by decide +kernel
theorem dX8_fill_34 : decode cX8_fill 34 = .ok (.iload_n 2, 1) := by decide +kernel
theorem dX8_fill_35 : decode cX8_fill 35 = .ok (.iconst (-1), 1) := by decide +kernel
theorem dX8_fill_36 : decode cX8_fill 36 = .ok (.iastore, 1) := by decide +kernel
theorem dX8_fill_37 : decode cX8_fill 37 = .ok (.aload_n 0, 1) := by decide +kernel
theorem dX8_fill_38 : decode cX8_fill 38 = .ok (.aload_n 1, 1) := by decide +kernel
theorem dX8_fill_39 : decode cX8_fill 39 = .ok (.iload_n 2, 1) := by decide +kernel
theorem dX8_fill_40 : decode cX8_fill 40 = .ok (.iconst 1, 1) := by decide +kernel
theorem dX8_fill_41 : decode cX8_fill 41 = .ok (.iadd, 1) := by decide +kernel
theorem dX8_fill_42 : decode cX8_fill 42 = .ok (.iload_n 3, 1) := by decide +kernel
theorem dX8_fill_43 : decode cX8_fill 43 = .ok (.iload 4, 2) := by decide +kernel
theorem dX8_fill_45 : decode cX8_fill 45 = .ok (.invokevirtual 22, 3) := by decide +kernel
theorem dX8_fill_48 : decode cX8_fill 48 = .ok (.return_, 1) := by decide +kernel
theorem dX8_fill_49 : decode cX8_fill 49 = .ok (.iconst 0, 1) := by decide +kernel
theorem dX8_fill_50 : decode cX8_fill 50 = .ok (.istore 5, 2) := by decide +kernel
theorem dX8_fill_52 : decode cX8_fill 52 = .ok (.iload 5, 2) := by decide +kernel
theorem dX8_fill_54 : decode cX8_fill 54 = .ok (.aload_n 1, 1) := by decide +kernel
theorem dX8_fill_55 : decode cX8_fill 55 = .ok (.getfield 34, 3) := by decide +kernel
theorem dX8_fill_58 : decode cX8_fill 58 = .ok (.if_icmp .ge 48, 3) := by decide +kernel
theorem dX8_fill_61 : decode cX8_fill 61 = .ok (.aload_n 0, 1) := by decide +kernel
theorem dX8_fill_62 : decode cX8_fill 62 = .ok (.getfield 18, 3) := by decide +kernel
theorem dX8_fill_65 : decode cX8_fill 65 = .ok (.iload 4, 2) := by decide +kernel
theorem dX8_fill_67 : decode cX8_fill 67 = .ok (.if_icmp .ge 39, 3) := by decide +kernel
theorem dX8_fill_70 : decode cX8_fill 70 = .ok (.aload_n 0, 1) := by decide +kernel
theorem dX8_fill_71 : decode cX8_fill 71 = .ok (.aload_n 1, 1) := by decide +kernel
theorem dX8_fill_72 : decode cX8_fill 72 = .ok (.iload_n 2, 1) := by decide +kernel
theorem dX8_fill_73 : decode cX8_fill 73 = .ok (.iload 5, 2) := by decide +kernel
theorem dX8_fill_75 : decode cX8_fill 75 = .ok (.invokevirtual 37, 3) := by decide +kernel
theorem dX8_fill_78 : decode cX8_fill 78 = .ok (.ifCond .eq 22, 3) := by decide +kernel
theorem dX8_fill_8 : decode cX8_fill 8 = .ok (.iload_n 2, 1) := by decide +kernel
theorem dX8_fill_81 : decode cX8_fill 81 = .ok (.aload_n 0, 1) := by decide +kernel
theorem dX8_fill_82 : decode cX8_fill 82 = .ok (.getfield 9, 3) := by decide +kernel
theorem dX8_fill_85 : decode cX8_fill 85 = .ok (.iload_n 2, 1) := by decide +kernel
theorem dX8_fill_86 : decode cX8_fill 86 = .ok (.iload 5, 2) := by decide +kernel
theorem dX8_fill_88 : decode cX8_fill 88 = .ok (.iastore, 1) := by decide +kernel
theorem dX8_fill_89 : decode cX8_fill 89 = .ok (.aload_n 0, 1) := by decide +kernel
theorem dX8_fill_9 : decode cX8_fill 9 = .ok (.aload_n 0, 1) := by decide +kernel
theorem dX8_fill_90 : decode cX8_fill 90 = .ok (.aload_n 1, 1) := by decide +kernel
theorem dX8_fill_91 : decode cX8_fill 91 = .ok (.iload_n 2, 1) := by decide +kernel
theorem dX8_fill_92 : decode cX8_fill 92 = .ok (.iconst 1, 1) := by decide +kernel
theorem dX8_fill_93 : decode cX8_fill 93 = .ok (.iadd, 1) := by decide +kernel
theorem dX8_fill_94 : decode cX8_fill 94 = .ok (.iload_n 3, 1) := by decide +kernel
theorem dX8_fill_95 : decode cX8_fill 95 = .ok (.iload 4, 2) := by decide +kernel
theorem dX8_fill_97 : decode cX8_fill 97 = .ok (.invokevirtual 22, 3) := by decide +kernel
def vX8_fill_s4 : List Cond := .code yX8_fill cX8_fill 6 none :: ([.fieldLink RX8 26 "HookPier$Plan" "askers" "I", .methodLink RX8 31 yX8_keepRow, .instanceMethod yX8_keepRow, .selects RX8 yX8_keepRow yX8_keepRow, .initialized RX8, .code yX8_keepRow cX8_keepRow 1 none, .fieldLink RX8 18 "HookPier$Seats" "found" "I", .fieldLink RX8 9 "HookPier$Seats" "row" "[I", .fieldLink RX8 15 "HookPier$Seats" "first" "[I", .methodLink RX8 41 arraycopyName, .native arraycopyName, .static arraycopyName, .initialized "java/lang/System", .fieldLink RX8 34 "HookPier$Plan" "spots" "I", .methodLink RX8 37 yX8_isFree, .instanceMethod yX8_isFree, .selects RX8 yX8_isFree yX8_isFree, .code yX8_isFree cX8_isFree 5 (some .boolean), .methodLink RX8 47 yX6_isTangle, .instanceMethod yX6_isTangle, .selects RX6 yX6_isTangle yX6_isTangle, .initialized RX6, .code yX6_isTangle cX6_isTangle 5 (some .boolean), .methodLink RX6 89 Lib.Math.abs.name, .static Lib.Math.abs.name, .initialized "java/lang/Math", .code Lib.Math.abs.name Lib.Math.abs.code 1 (some .int), .fieldLink RX6 39 "HookPier$Plan" "reach" "[I", .methodLink RX8 22 yX8_fill, .instanceMethod yX8_fill, .selects RX8 yX8_fill yX8_fill, .code yX8_fill cX8_fill 6 none] ++ wsX60 ++ wsX80)
theorem iX8_fill_s4_X6 : ∀ w ∈ wsX60, w ∈ vX8_fill_s4 := fun _ h => List.mem_cons_of_mem _ (List.mem_append_left _ (List.mem_append_right _ h))
theorem iX8_fill_s4_X8 : ∀ w ∈ wsX80, w ∈ vX8_fill_s4 := fun _ h => List.mem_cons_of_mem _ (List.mem_append_right _ h)
set_option maxRecDepth 20000 in
theorem gX8_fill_s4_0 : GoodIn vX8_fill_s4 (wsV RX8 31 RX8 yX8_keepRow vX8_keepRow) := goodIn_app (goodIn_r [.methodLink RX8 31 yX8_keepRow, .instanceMethod yX8_keepRow, .selects RX8 yX8_keepRow yX8_keepRow, .initialized RX8] [2, 3, 4, 5] (by decide +kernel) (by decide +kernel)) (goodIn_ca (goodIn_r (.code yX8_keepRow cX8_keepRow 1 none :: [.fieldLink RX8 18 "HookPier$Seats" "found" "I", .fieldLink RX8 9 "HookPier$Seats" "row" "[I", .fieldLink RX8 15 "HookPier$Seats" "first" "[I", .methodLink RX8 41 arraycopyName, .native arraycopyName, .static arraycopyName, .initialized "java/lang/System"]) [6, 7, 8, 9, 10, 11, 12, 13] (by decide +kernel) (by decide +kernel) : GoodIn vX8_fill_s4 (.code yX8_keepRow cX8_keepRow 1 none :: [.fieldLink RX8 18 "HookPier$Seats" "found" "I", .fieldLink RX8 9 "HookPier$Seats" "row" "[I", .fieldLink RX8 15 "HookPier$Seats" "first" "[I", .methodLink RX8 41 arraycopyName, .native arraycopyName, .static arraycopyName, .initialized "java/lang/System"])) (goodIn_sub iX8_fill_s4_X8 (by decide +kernel)))
set_option maxRecDepth 20000 in
theorem gX8_fill_s4_1 : GoodIn vX8_fill_s4 (wsV RX8 37 RX8 yX8_isFree vX8_isFree) := goodIn_app (goodIn_r [.methodLink RX8 37 yX8_isFree, .instanceMethod yX8_isFree, .selects RX8 yX8_isFree yX8_isFree, .initialized RX8] [15, 16, 17, 5] (by decide +kernel) (by decide +kernel)) (goodIn_ca (goodIn_ca (goodIn_r (.code yX8_isFree cX8_isFree 5 (some .boolean) :: [.fieldLink RX8 9 "HookPier$Seats" "row" "[I", .methodLink RX8 47 yX6_isTangle, .instanceMethod yX6_isTangle, .selects RX6 yX6_isTangle yX6_isTangle, .initialized RX6, .code yX6_isTangle cX6_isTangle 5 (some .boolean), .methodLink RX6 89 Lib.Math.abs.name, .static Lib.Math.abs.name, .initialized "java/lang/Math", .code Lib.Math.abs.name Lib.Math.abs.code 1 (some .int), .fieldLink RX6 39 "HookPier$Plan" "reach" "[I"]) [18, 8, 19, 20, 21, 22, 23, 24, 25, 26, 27, 28] (by decide +kernel) (by decide +kernel) : GoodIn vX8_fill_s4 (.code yX8_isFree cX8_isFree 5 (some .boolean) :: [.fieldLink RX8 9 "HookPier$Seats" "row" "[I", .methodLink RX8 47 yX6_isTangle, .instanceMethod yX6_isTangle, .selects RX6 yX6_isTangle yX6_isTangle, .initialized RX6, .code yX6_isTangle cX6_isTangle 5 (some .boolean), .methodLink RX6 89 Lib.Math.abs.name, .static Lib.Math.abs.name, .initialized "java/lang/Math", .code Lib.Math.abs.name Lib.Math.abs.code 1 (some .int), .fieldLink RX6 39 "HookPier$Plan" "reach" "[I"])) (goodIn_sub iX8_fill_s4_X8 (by decide +kernel))) (goodIn_sub iX8_fill_s4_X6 (by decide +kernel)))
set_option maxRecDepth 20000 in
theorem gX8_fill_s4_2 : GoodIn vX8_fill_s4 (wsV RX8 22 RX8 yX8_fill vX8_fill_s5) := goodIn_app (goodIn_r [.methodLink RX8 22 yX8_fill, .instanceMethod yX8_fill, .selects RX8 yX8_fill yX8_fill, .initialized RX8] [29, 30, 31, 5] (by decide +kernel) (by decide +kernel)) (goodIn_ca (goodIn_ca (goodIn_r (.code yX8_fill cX8_fill 6 none :: [.fieldLink RX8 26 "HookPier$Plan" "askers" "I", .methodLink RX8 31 yX8_keepRow, .instanceMethod yX8_keepRow, .selects RX8 yX8_keepRow yX8_keepRow, .initialized RX8, .code yX8_keepRow cX8_keepRow 1 none, .fieldLink RX8 18 "HookPier$Seats" "found" "I", .fieldLink RX8 9 "HookPier$Seats" "row" "[I", .fieldLink RX8 15 "HookPier$Seats" "first" "[I", .methodLink RX8 41 arraycopyName, .native arraycopyName, .static arraycopyName, .initialized "java/lang/System"]) [0, 1, 2, 3, 4, 5, 6, 7, 8, 9, 10, 11, 12, 13] (by decide +kernel) (by decide +kernel) : GoodIn vX8_fill_s4 (.code yX8_fill cX8_fill 6 none :: [.fieldLink RX8 26 "HookPier$Plan" "askers" "I", .methodLink RX8 31 yX8_keepRow, .instanceMethod yX8_keepRow, .selects RX8 yX8_keepRow yX8_keepRow, .initialized RX8, .code yX8_keepRow cX8_keepRow 1 none, .fieldLink RX8 18 "HookPier$Seats" "found" "I", .fieldLink RX8 9 "HookPier$Seats" "row" "[I", .fieldLink RX8 15 "HookPier$Seats" "first" "[I", .methodLink RX8 41 arraycopyName, .native arraycopyName, .static arraycopyName, .initialized "java/lang/System"])) (goodIn_sub iX8_fill_s4_X6 (by decide +kernel))) (goodIn_sub iX8_fill_s4_X8 (by decide +kernel)))
set_option maxHeartbeats 2000000 in
set_option maxRecDepth 100000 in
theorem kX8_fill_s4 (l : Launch) (dC : Nat → ClassId) (dI : Nat → Nat → Nat) (a0 : Nat) (a1 : Nat) (k2 : Int32) (k3 : Int32) (a4 : Nat) (a5 : Nat) (a6 : Nat) (k7 : Int32) (k8 : Int32) (g9 : Value) (g10 : Value) (g11 : Value) (g12 : Value) (k13 : Int32) (g14 : Value) (g15 : Value) (g16 : Value) (g17 : Value) (g18 : Value) (g19 : Value) (g20 : Value) (g21 : Value) (g22 : Value) (g23 : Value) (g24 : Value) (cB25 : ClassId) (f26 : Nat → Int32) (cB27 : ClassId) (f28 : Nat → Int32) (cB29 : ClassId) (f30 : Nat → Int32) (hk8 : (0 ≤ k8.toInt ∧ k8.toInt ≤ 8)) (hk13 : (0 ≤ k13.toInt ∧ k13.toInt ≤ 5)) (sz : Nat) : Met l yX8_fill vX8_fill_s4 ({ frames := 3, cells := 0, slots := 0, locals := 85 }) (PC (dC, dI) [.ref a0, .ref a1, .int 4, .int k2, .int k3] sz [(a0, .inr (6, [.ref a4, .ref a5, .int k7])), (a1, .inr (4, [.int k8, g9, g10, g11, g12, .int k13, g14, g15, g16, .ref a6, g17, g18, g19, g20, g21, g22, g23, g24])), (a4, .inl (cB25, 5, .inl f26)), (a5, .inl (cB27, 5, .inl f28)), (a6, .inl (cB29, 5, .inl f30))] [(cB25, .int), (cB27, .int), (cB29, .int)]) (va_Qv (S := Int32 × (Nat → Int32) × (Nat → Int32)) (fun u => True) (fun u t => BC (dC, dI) (va_A [(a0, .inr (6, [.ref a4, .ref a5, .int k7])), (a1, .inr (4, [.int k8, g9, g10, g11, g12, .int k13, g14, g15, g16, .ref a6, g17, g18, g19, g20, g21, g22, g23, g24])), (a4, .inl (cB25, 5, .inl f26)), (a5, .inl (cB27, 5, .inl f28)), (a6, .inl (cB29, 5, .inl f30))] sz) [(a0, .inr (6, [.ref a4, .ref a5, .int (u.1)])), (a1, .inr (4, [.int k8, g9, g10, g11, g12, .int k13, g14, g15, g16, .ref a6, g17, g18, g19, g20, g21, g22, g23, g24])), (a4, .inl (cB25, 5, .inl (u.2.1))), (a5, .inl (cB27, 5, .inl (u.2.2))), (a6, .inl (cB29, 5, .inl f30))] [] t) (va_A [(a0, .inr (6, [.ref a4, .ref a5, .int k7])), (a1, .inr (4, [.int k8, g9, g10, g11, g12, .int k13, g14, g15, g16, .ref a6, g17, g18, g19, g20, g21, g22, g23, g24])), (a4, .inl (cB25, 5, .inl f26)), (a5, .inl (cB27, 5, .inl f28)), (a6, .inl (cB29, 5, .inl f30))] sz)) 0 0 (va_A [(a0, .inr (6, [.ref a4, .ref a5, .int k7])), (a1, .inr (4, [.int k8, g9, g10, g11, g12, .int k13, g14, g15, g16, .ref a6, g17, g18, g19, g20, g21, g22, g23, g24])), (a4, .inl (cB25, 5, .inl f26)), (a5, .inl (cB27, 5, .inl f28)), (a6, .inl (cB29, 5, .inl f30))] sz) := by
  refine Met.ofW (cc := cX8_fill) (maxL := 6) (ret := none) (by decide) rfl ?_
  intro p e s m args below meth c s₁ B hml hv
  obtain ⟨rfl, hsz, hP, hK, hD0, hN⟩ := hv
  have hx := B.exec
  have hb := B.bytes
  have hr := B.returns
  have hts := atoms_spec (ws := vX8_fill_s4) B.pre
  have hown : s.vm.findClass RX8 = some m.cls := findClass_of_methodNamed B.named
  have hlocks := B.notSynchronized
  subst hsz
  have hD := hD0.self (sz := s.heap.size)
  generalize hAe : va_A [(a0, .inr (6, [.ref a4, .ref a5, .int k7])), (a1, .inr (4, [.int k8, g9, g10, g11, g12, .int k13, g14, g15, g16, .ref a6, g17, g18, g19, g20, g21, g22, g23, g24])), (a4, .inl (cB25, 5, .inl f26)), (a5, .inl (cB27, 5, .inl f28)), (a6, .inl (cB29, 5, .inl f30))] s.heap.size = A at hD ⊢
  have hA : ∀ q : Nat, s.heap.size ≤ q → A q := fun q h => by rw [← hAe]; exact Or.inr h
  have hS : va_S A s.heap s.heap [] := va_S.rf
  have hP : va_P (dC, dI) vwCl [(a0, .inr (6, [.ref a4, .ref a5, .int k7])), (a1, .inr (4, [.int k8, g9, g10, g11, g12, .int k13, g14, g15, g16, .ref a6, g17, g18, g19, g20, g21, g22, g23, g24])), (a4, .inl (cB25, 5, .inl f26)), (a5, .inl (cB27, 5, .inl f28)), (a6, .inl (cB29, 5, .inl f30))] s.heap := hP
  have hl := lv_entry ([.ref a0, .ref a1, .int 4, .int k2, .int k3]) (n := 6) (Nat.le_of_ble_eq_true rfl)
  rw [lg_entry_eq]
  generalize (lg_sl ([.ref a0, .ref a1, .int 4, .int k2, .int k3]) ++ List.replicate (6 - (lg_sl ([.ref a0, .ref a1, .int 4, .int k2, .int k3])).length) Slot.unset).toArray = ls at hl ⊢
  have hl : lv_has ls 6 [(0, .ref a0), (1, .ref a1), (2, .int 4), (3, .int k2), (4, .int k3)] := hl
  refine lv_iload_n hx hb dX8_fill_0 rfl (lv_at hl 2 rfl) ?_
  refine lv_aload_n hx hb dX8_fill_1 rfl (lv_at hl 1 rfl) ?_
  refine va_get (D := (dC, dI)) (ci := 4) (v := .int k13) (C := RX6) (T := TX6) (N := 18) hx hb hts iX8_fill_s4_X6 hown hK hP 1 rfl rfl 5 (by decide) (hts (.fieldLink RX8 26 "HookPier$Plan" "askers" "I") (List.mem_of_getElem? (i := 1) rfl)) (fun _ h9 => h9) rfl dX8_fill_2 ?_
  refine lv_icmp_ge (tgt := 17) hx hb dX8_fill_5 (by decide) (fun c1 => ?_) (fun c1 => ?_)
  · simp only [fa_lt, fa_le, fa_eq, ltv_0, ltv_4] at c1
    refine lv_aload_n hx hb dX8_fill_17 rfl (lv_at hl 0 rfl) ?_
    refine cl_v (wc := [(a0, .inr (6, [.ref a4, .ref a5, .int k7])), (a4, .inl (cB25, 5, .inl f26)), (a5, .inl (cB27, 5, .inl f28))]) (wr := [(a1, .inr (4, [.int k8, g9, g10, g11, g12, .int k13, g14, g15, g16, .ref a6, g17, g18, g19, g20, g21, g22, g23, g24])), (a6, .inl (cB29, 5, .inl f30))]) (va_runV (As := []) (rest := []) ⟨hx, hb, hml, hown, hts⟩ (kX8_keepRow l dC dI a0 a4 a5 k7 cB25 f26 cB27 f28  s.heap.size) (cwV 0 hts gX8_fill_s4_0 rfl rfl rfl (by decide +kernel) ⟨Nat.le_of_ble_eq_true rfl, Nat.le_of_ble_eq_true rfl⟩) (PV (hP.sub (ws' := [(a0, .inr (6, [.ref a4, .ref a5, .int k7])), (a4, .inl (cB25, 5, .inl f26)), (a5, .inl (cB27, 5, .inl f28))]) [0, 2, 3] rfl) (hK.sub (tys' := [(cB25, .int), (cB27, .int)]) [0, 1] rfl) (hD.sub (ws' := [(a0, .inr (6, [.ref a4, .ref a5, .int k7])), (a4, .inl (cB25, 5, .inl f26)), (a5, .inl (cB27, 5, .inl f28))]) [0, 2, 3] (by decide) rfl) hN 0 rfl rfl) rfl rfl hl.1 rfl (lv_room (Nat.le_of_ble_eq_true rfl)) dX8_fill_18 ⟨Nat.le_of_ble_eq_true rfl, Nat.le_of_ble_eq_true rfl⟩) hP hD hK hS hA [0, 2, 3] [1, 4] rfl rfl (by decide) (by decide) (fun u H locs hw hP hD hK hS => ?_)
    obtain ⟨z2, f3⟩ := u
    have b4 := hw
    have hP : va_P (dC, dI) vwCl [(a1, .inr (4, [.int k8, g9, g10, g11, g12, .int k13, g14, g15, g16, .ref a6, g17, g18, g19, g20, g21, g22, g23, g24])), (a6, .inl (cB29, 5, .inl f30)), (a0, .inr (6, [.ref a4, .ref a5, .int z2])), (a4, .inl (cB25, 5, .inl f26)), (a5, .inl (cB27, 5, .inl f3))] H := hP
    have hD : va_D A [(a1, .inr (4, [.int k8, g9, g10, g11, g12, .int k13, g14, g15, g16, .ref a6, g17, g18, g19, g20, g21, g22, g23, g24])), (a6, .inl (cB29, 5, .inl f30)), (a0, .inr (6, [.ref a4, .ref a5, .int z2])), (a4, .inl (cB25, 5, .inl f26)), (a5, .inl (cB27, 5, .inl f3))] := hD
    have hK : va_K (dC, dI) vwCl [(cB25, .int), (cB27, .int), (cB29, .int)] s := hK
    have hP9 := hP.sub (ws' := [(a0, .inr (6, [.ref a4, .ref a5, .int z2])), (a1, .inr (4, [.int k8, g9, g10, g11, g12, .int k13, g14, g15, g16, .ref a6, g17, g18, g19, g20, g21, g22, g23, g24])), (a4, .inl (cB25, 5, .inl f26)), (a5, .inl (cB27, 5, .inl f3)), (a6, .inl (cB29, 5, .inl f30))]) [2, 0, 3, 4, 1] rfl
    have hD9 := hD.sub (ws' := [(a0, .inr (6, [.ref a4, .ref a5, .int z2])), (a1, .inr (4, [.int k8, g9, g10, g11, g12, .int k13, g14, g15, g16, .ref a6, g17, g18, g19, g20, g21, g22, g23, g24])), (a4, .inl (cB25, 5, .inl f26)), (a5, .inl (cB27, 5, .inl f3)), (a6, .inl (cB29, 5, .inl f30))]) [2, 0, 3, 4, 1] (by decide) rfl
    have hK9 := hK.sub (tys' := []) [] rfl
    exact W.vret hx hb hr (fun t ht hW => ⟨⟨(z2, f26, f3), rfl, trivial, by rw [ht]; exact hP9, va_K.moved hW.alike hK9, hD9⟩, hS.F ht⟩) hS.2.2 dX8_fill_21
  · simp only [fa_lt, fa_le, fa_eq, ltv_0, ltv_4] at c1
    refine lv_iload_n hx hb dX8_fill_8 rfl (lv_at hl 2 rfl) ?_
    refine lv_aload_n hx hb dX8_fill_9 rfl (lv_at hl 0 rfl) ?_
    refine va_get (D := (dC, dI)) (ci := 6) (v := .ref a4) (C := RX8) (T := TX8) (N := 3) hx hb hts iX8_fill_s4_X8 hown hK hP 0 rfl rfl 0 (by decide) (hts (.fieldLink RX8 9 "HookPier$Seats" "row" "[I") (List.mem_of_getElem? (i := 8) rfl)) (fun _ h9 => h9) rfl dX8_fill_10 ?_
    refine va_alen (v := 5) hx hb hK hP 2 0 rfl rfl rfl dX8_fill_13 ?_
    refine lv_icmp_lt (tgt := 22) hx hb dX8_fill_14 (by decide) (fun _ => ?_) (fun c5 => absurd c5 (by decide))
    refine lv_iload_n hx hb dX8_fill_22 rfl (lv_at hl 3 rfl) ?_
    refine lv_iload_n hx hb dX8_fill_23 rfl (lv_at hl 2 rfl) ?_
    refine lv_ishr hx hb dX8_fill_24 ?_
    refine lv_topi (fun z6 ez6 => ?_)
    clear ez6
    refine lv_iconst (v := 1) hx hb dX8_fill_25 (by decide) ?_
    refine lv_iand hx hb dX8_fill_26 ?_
    refine lv_topi (fun z7 ez7 => ?_)
    clear ez7
    refine lv_if_ne (tgt := 49) hx hb dX8_fill_27 (by decide) (fun c8 => ?_) (fun c8 => ?_)
    · simp only [fa_lt, fa_le, fa_eq, ltv_0] at c8
      refine lv_iconst (v := 0) hx hb dX8_fill_49 (by decide) ?_
      refine lv_istore (lv' := [(5, .int 0), (0, .ref a0), (1, .ref a1), (2, .int 4), (3, .int k2), (4, .int k3)]) hx hb dX8_fill_50 hl (by decide) rfl (fun ls hl => ?_)
      have L52_101 : ∀ (n : Nat) (z97 : Int32) (z98 : Int32) (f99 : Nat → Int32) (f100 : Nat → Int32) (H : Heap) (locs : List Loc) (ls : Array Slot), (0 ≤ z97.toInt ∧ z97.toInt ≤ 8) → 8 - z97.toInt < (n : Int) → va_P (dC, dI) vwCl [(a0, .inr (6, [.ref a4, .ref a5, .int z98])), (a1, .inr (4, [.int k8, g9, g10, g11, g12, .int k13, g14, g15, g16, .ref a6, g17, g18, g19, g20, g21, g22, g23, g24])), (a4, .inl (cB25, 5, .inl f99)), (a5, .inl (cB27, 5, .inl f100)), (a6, .inl (cB29, 5, .inl f30))] H → va_D A [(a0, .inr (6, [.ref a4, .ref a5, .int z98])), (a1, .inr (4, [.int k8, g9, g10, g11, g12, .int k13, g14, g15, g16, .ref a6, g17, g18, g19, g20, g21, g22, g23, g24])), (a4, .inl (cB25, 5, .inl f99)), (a5, .inl (cB27, 5, .inl f100)), (a6, .inl (cB29, 5, .inl f30))] → va_S A s.heap H locs → lv_has ls 6 [(5, .int z97), (0, .ref a0), (1, .ref a1), (2, .int 4), (3, .int k2), (4, .int k3)] → W p l e (headSpec vX8_fill_s4 { frames := 3, cells := 0, slots := 0, locals := 85 }).room s m ([.ref a0, .ref a1, .int 4, .int k2, .int k3]).toArray below meth c H locs 0 0 (MQ below (va_Qv (S := Int32 × (Nat → Int32) × (Nat → Int32)) (fun u => True) (fun u t => BC (dC, dI) A [(a0, .inr (6, [.ref a4, .ref a5, .int (u.1)])), (a1, .inr (4, [.int k8, g9, g10, g11, g12, .int k13, g14, g15, g16, .ref a6, g17, g18, g19, g20, g21, g22, g23, g24])), (a4, .inl (cB25, 5, .inl (u.2.1))), (a5, .inl (cB27, 5, .inl (u.2.2))), (a6, .inl (cB29, 5, .inl f30))] [] t) A) ([.ref a0, .ref a1, .int 4, .int k2, .int k3]).toArray s 0 0 A) (F0 m 52 ls []) := by
        intro n
        induction n with
        | zero =>
          intro z97 z98 f99 f100 H locs ls b52_0 hm _ _ _ _
          exact absurd hm (by omega)
        | succ n ih52 =>
          intro z97 z98 f99 f100 H locs ls b52_0 hm52 hP hD hS hl
          refine lv_iload hx hb dX8_fill_52 (lv_at hl 0 rfl) ?_
          refine lv_aload_n hx hb dX8_fill_54 rfl (lv_at hl 2 rfl) ?_
          refine va_get (D := (dC, dI)) (ci := 4) (v := .int k8) (C := RX6) (T := TX6) (N := 18) hx hb hts iX8_fill_s4_X6 hown hK hP 1 rfl rfl 0 (by decide) (hts (.fieldLink RX8 34 "HookPier$Plan" "spots" "I") (List.mem_of_getElem? (i := 14) rfl)) (fun _ h9 => h9) rfl dX8_fill_55 ?_
          refine lv_icmp_ge (tgt := 106) hx hb dX8_fill_58 (by decide) (fun c102 => ?_) (fun c102 => ?_)
          · simp only [fa_lt, fa_le, fa_eq, ltv_0] at c102
            have hP9 := hP.sub (ws' := [(a0, .inr (6, [.ref a4, .ref a5, .int z98])), (a1, .inr (4, [.int k8, g9, g10, g11, g12, .int k13, g14, g15, g16, .ref a6, g17, g18, g19, g20, g21, g22, g23, g24])), (a4, .inl (cB25, 5, .inl f99)), (a5, .inl (cB27, 5, .inl f100)), (a6, .inl (cB29, 5, .inl f30))]) [0, 1, 2, 3, 4] rfl
            have hD9 := hD.sub (ws' := [(a0, .inr (6, [.ref a4, .ref a5, .int z98])), (a1, .inr (4, [.int k8, g9, g10, g11, g12, .int k13, g14, g15, g16, .ref a6, g17, g18, g19, g20, g21, g22, g23, g24])), (a4, .inl (cB25, 5, .inl f99)), (a5, .inl (cB27, 5, .inl f100)), (a6, .inl (cB29, 5, .inl f30))]) [0, 1, 2, 3, 4] (by decide) rfl
            have hK9 := hK.sub (tys' := []) [] rfl
            exact W.vret hx hb hr (fun t ht hW => ⟨⟨(z98, f99, f100), rfl, trivial, by rw [ht]; exact hP9, va_K.moved hW.alike hK9, hD9⟩, hS.F ht⟩) hS.2.2 dX8_fill_106
          · simp only [fa_lt, fa_le, fa_eq, ltv_0] at c102
            refine lv_aload_n hx hb dX8_fill_61 rfl (lv_at hl 1 rfl) ?_
            refine va_get (D := (dC, dI)) (ci := 6) (v := .int z98) (C := RX8) (T := TX8) (N := 3) hx hb hts iX8_fill_s4_X8 hown hK hP 0 rfl rfl 2 (by decide) (hts (.fieldLink RX8 18 "HookPier$Seats" "found" "I") (List.mem_of_getElem? (i := 7) rfl)) (fun _ h9 => h9) rfl dX8_fill_62 ?_
            refine lv_iload hx hb dX8_fill_65 (lv_at hl 5 rfl) ?_
            refine lv_icmp_ge (tgt := 106) hx hb dX8_fill_67 (by decide) (fun c103 => ?_) (fun c103 => ?_)
            · simp only [fa_lt, fa_le, fa_eq, ltv_0] at c103
              have hP9 := hP.sub (ws' := [(a0, .inr (6, [.ref a4, .ref a5, .int z98])), (a1, .inr (4, [.int k8, g9, g10, g11, g12, .int k13, g14, g15, g16, .ref a6, g17, g18, g19, g20, g21, g22, g23, g24])), (a4, .inl (cB25, 5, .inl f99)), (a5, .inl (cB27, 5, .inl f100)), (a6, .inl (cB29, 5, .inl f30))]) [0, 1, 2, 3, 4] rfl
              have hD9 := hD.sub (ws' := [(a0, .inr (6, [.ref a4, .ref a5, .int z98])), (a1, .inr (4, [.int k8, g9, g10, g11, g12, .int k13, g14, g15, g16, .ref a6, g17, g18, g19, g20, g21, g22, g23, g24])), (a4, .inl (cB25, 5, .inl f99)), (a5, .inl (cB27, 5, .inl f100)), (a6, .inl (cB29, 5, .inl f30))]) [0, 1, 2, 3, 4] (by decide) rfl
              have hK9 := hK.sub (tys' := []) [] rfl
              exact W.vret hx hb hr (fun t ht hW => ⟨⟨(z98, f99, f100), rfl, trivial, by rw [ht]; exact hP9, va_K.moved hW.alike hK9, hD9⟩, hS.F ht⟩) hS.2.2 dX8_fill_106
            · simp only [fa_lt, fa_le, fa_eq, ltv_0] at c103
              refine lv_aload_n hx hb dX8_fill_70 rfl (lv_at hl 1 rfl) ?_
              refine lv_aload_n hx hb dX8_fill_71 rfl (lv_at hl 2 rfl) ?_
              refine lv_iload_n hx hb dX8_fill_72 rfl (lv_at hl 3 rfl) ?_
              refine lv_iload hx hb dX8_fill_73 (lv_at hl 0 rfl) ?_
              refine cl_i (wc := [(a0, .inr (6, [.ref a4, .ref a5, .int z98])), (a1, .inr (4, [.int k8, g9, g10, g11, g12, .int k13, g14, g15, g16, .ref a6, g17, g18, g19, g20, g21, g22, g23, g24])), (a4, .inl (cB25, 5, .inl f99)), (a6, .inl (cB29, 5, .inl f30))]) (wr := [(a5, .inl (cB27, 5, .inl f100))]) (va_runV (As := [.ref a1, .int 4, .int z97]) (rest := []) ⟨hx, hb, hml, hown, hts⟩ (kX8_isFree l dC dI a0 a1 4 z97 a4 a6 (.ref a5) (.int z98) (.int k8) (g9) (g10) (g11) (g12) (.int k13) (g14) (g15) (g16) (g17) (g18) (g19) (g20) (g21) (g22) (g23) (g24) cB25 f99 cB29 f30 (by first | omega | (simp only [ltv_0, ltv_4]; omega)) H.size) (cwV 3 hts gX8_fill_s4_1 rfl rfl rfl (by decide +kernel) ⟨Nat.le_of_ble_eq_true rfl, Nat.le_of_ble_eq_true rfl⟩) (PV (hP.sub (ws' := [(a0, .inr (6, [.ref a4, .ref a5, .int z98])), (a1, .inr (4, [.int k8, g9, g10, g11, g12, .int k13, g14, g15, g16, .ref a6, g17, g18, g19, g20, g21, g22, g23, g24])), (a4, .inl (cB25, 5, .inl f99)), (a6, .inl (cB29, 5, .inl f30))]) [0, 1, 2, 4] rfl) (hK.sub (tys' := [(cB25, .int), (cB29, .int)]) [0, 2] rfl) (hD.sub (ws' := [(a0, .inr (6, [.ref a4, .ref a5, .int z98])), (a1, .inr (4, [.int k8, g9, g10, g11, g12, .int k13, g14, g15, g16, .ref a6, g17, g18, g19, g20, g21, g22, g23, g24])), (a4, .inl (cB25, 5, .inl f99)), (a6, .inl (cB29, 5, .inl f30))]) [0, 1, 2, 4] (by decide) rfl) hN 0 rfl rfl) rfl rfl hl.1 rfl (lv_room (Nat.le_of_ble_eq_true rfl)) dX8_fill_75 ⟨Nat.le_of_ble_eq_true rfl, Nat.le_of_ble_eq_true rfl⟩) hP hD hK hS hA [0, 1, 2, 4] [3] rfl rfl (by decide) (by decide) (fun z104 _u H locs hw hP hD hK hS => ?_)
              have b105 := hw
              have hP : va_P (dC, dI) vwCl [(a5, .inl (cB27, 5, .inl f100)), (a0, .inr (6, [.ref a4, .ref a5, .int z98])), (a1, .inr (4, [.int k8, g9, g10, g11, g12, .int k13, g14, g15, g16, .ref a6, g17, g18, g19, g20, g21, g22, g23, g24])), (a4, .inl (cB25, 5, .inl f99)), (a6, .inl (cB29, 5, .inl f30))] H := hP
              have hD : va_D A [(a5, .inl (cB27, 5, .inl f100)), (a0, .inr (6, [.ref a4, .ref a5, .int z98])), (a1, .inr (4, [.int k8, g9, g10, g11, g12, .int k13, g14, g15, g16, .ref a6, g17, g18, g19, g20, g21, g22, g23, g24])), (a4, .inl (cB25, 5, .inl f99)), (a6, .inl (cB29, 5, .inl f30))] := hD
              have hK : va_K (dC, dI) vwCl [(cB25, .int), (cB27, .int), (cB29, .int)] s := hK
              refine lv_if_eq (tgt := 100) hx hb dX8_fill_78 (by decide) (fun c106 => ?_) (fun c106 => ?_)
              · simp only [fa_lt, fa_le, fa_eq, ltv_0] at c106
                obtain ⟨z107, ez107⟩ : ∃ y : Int32, y = z97 + 1 := ⟨_, rfl⟩
                have tz107 : z107.toInt = z97.toInt + 1 := by rw [ez107, iadd_t (by simp only [ltv_1]; omega) (by simp only [ltv_1]; omega)]; simp only [ltv_1]
                refine lv_iinc (v := z107) (lv' := [(5, .int z107), (0, .ref a0), (1, .ref a1), (2, .int 4), (3, .int k2), (4, .int k3)]) hx hb dX8_fill_100 hl (k := 0) rfl (by rw [ez107]; rfl) (by decide) rfl (fun ls hl => ?_)
                refine lv_goto (tgt := 52) hx hb dX8_fill_103 (by decide) ?_
                exact ih52 z107 z98 f99 f100 H locs ls (by first | omega | (simp only [ltv_0, ltv_4]; omega)) (by first | omega | (simp only [ltv_0, ltv_4]; omega)) (hP.sub (ws' := [(a0, .inr (6, [.ref a4, .ref a5, .int z98])), (a1, .inr (4, [.int k8, g9, g10, g11, g12, .int k13, g14, g15, g16, .ref a6, g17, g18, g19, g20, g21, g22, g23, g24])), (a4, .inl (cB25, 5, .inl f99)), (a5, .inl (cB27, 5, .inl f100)), (a6, .inl (cB29, 5, .inl f30))]) [1, 2, 3, 0, 4] rfl) (hD.sub (ws' := [(a0, .inr (6, [.ref a4, .ref a5, .int z98])), (a1, .inr (4, [.int k8, g9, g10, g11, g12, .int k13, g14, g15, g16, .ref a6, g17, g18, g19, g20, g21, g22, g23, g24])), (a4, .inl (cB25, 5, .inl f99)), (a5, .inl (cB27, 5, .inl f100)), (a6, .inl (cB29, 5, .inl f30))]) [1, 2, 3, 0, 4] (by decide) rfl) hS (lv_sub hl [0, 1, 2, 3, 4, 5] rfl)
              · simp only [fa_lt, fa_le, fa_eq, ltv_0] at c106
                refine lv_aload_n hx hb dX8_fill_81 rfl (lv_at hl 1 rfl) ?_
                refine va_get (D := (dC, dI)) (ci := 6) (v := .ref a4) (C := RX8) (T := TX8) (N := 3) hx hb hts iX8_fill_s4_X8 hown hK hP 1 rfl rfl 0 (by decide) (hts (.fieldLink RX8 9 "HookPier$Seats" "row" "[I") (List.mem_of_getElem? (i := 8) rfl)) (fun _ h9 => h9) rfl dX8_fill_82 ?_
                refine lv_iload_n hx hb dX8_fill_85 rfl (lv_at hl 3 rfl) ?_
                refine lv_iload hx hb dX8_fill_86 (lv_at hl 0 rfl) ?_
                refine va_iast hx hb hK hP hD hS 3 0 rfl rfl (by unfold vp_in; decide) dX8_fill_88 (fun H locs hP hD hS => ?_)
                have hP : va_P (dC, dI) vwCl [(a5, .inl (cB27, 5, .inl f100)), (a0, .inr (6, [.ref a4, .ref a5, .int z98])), (a1, .inr (4, [.int k8, g9, g10, g11, g12, .int k13, g14, g15, g16, .ref a6, g17, g18, g19, g20, g21, g22, g23, g24])), (a4, .inl (cB25, 5, .inl (upd f99 (4 : Int32).toNatClampNeg z97))), (a6, .inl (cB29, 5, .inl f30))] H := hP
                have hD : va_D A [(a5, .inl (cB27, 5, .inl f100)), (a0, .inr (6, [.ref a4, .ref a5, .int z98])), (a1, .inr (4, [.int k8, g9, g10, g11, g12, .int k13, g14, g15, g16, .ref a6, g17, g18, g19, g20, g21, g22, g23, g24])), (a4, .inl (cB25, 5, .inl (upd f99 (4 : Int32).toNatClampNeg z97))), (a6, .inl (cB29, 5, .inl f30))] := hD
                generalize upd f99 (4 : Int32).toNatClampNeg z97 = f108 at hP hD
                refine lv_aload_n hx hb dX8_fill_89 rfl (lv_at hl 1 rfl) ?_
                refine lv_aload_n hx hb dX8_fill_90 rfl (lv_at hl 2 rfl) ?_
                refine lv_iload_n hx hb dX8_fill_91 rfl (lv_at hl 3 rfl) ?_
                refine lv_iconst (v := 1) hx hb dX8_fill_92 (by decide) ?_
                refine lv_iadd hx hb dX8_fill_93 ?_
                refine lv_topi (fun z109 ez109 => ?_)
                obtain rfl : z109 = 5 := ez109.trans (by decide)
                refine lv_iload_n hx hb dX8_fill_94 rfl (lv_at hl 4 rfl) ?_
                refine lv_iload hx hb dX8_fill_95 (lv_at hl 5 rfl) ?_
                refine cl_v (wc := [(a0, .inr (6, [.ref a4, .ref a5, .int z98])), (a1, .inr (4, [.int k8, g9, g10, g11, g12, .int k13, g14, g15, g16, .ref a6, g17, g18, g19, g20, g21, g22, g23, g24])), (a4, .inl (cB25, 5, .inl f108)), (a5, .inl (cB27, 5, .inl f100))]) (wr := [(a6, .inl (cB29, 5, .inl f30))]) (va_runV (As := [.ref a1, .int 5, .int k2, .int k3]) (rest := []) ⟨hx, hb, hml, hown, hts⟩ (kX8_fill_s5 l dC dI a0 a1 k2 k3 a4 a5 z98 (.int k8) (g9) (g10) (g11) (g12) k13 (g14) (g15) (g16) (.ref a6) (g17) (g18) (g19) (g20) (g21) (g22) (g23) (g24) cB25 f108 cB27 f100 (by first | omega | (simp only [ltv_0, ltv_5]; omega)) H.size) (cwV 4 hts gX8_fill_s4_2 rfl rfl rfl (by decide +kernel) ⟨Nat.le_of_ble_eq_true rfl, Nat.le_of_ble_eq_true rfl⟩) (PV (hP.sub (ws' := [(a0, .inr (6, [.ref a4, .ref a5, .int z98])), (a1, .inr (4, [.int k8, g9, g10, g11, g12, .int k13, g14, g15, g16, .ref a6, g17, g18, g19, g20, g21, g22, g23, g24])), (a4, .inl (cB25, 5, .inl f108)), (a5, .inl (cB27, 5, .inl f100))]) [1, 2, 3, 0] rfl) (hK.sub (tys' := [(cB25, .int), (cB27, .int)]) [0, 1] rfl) (hD.sub (ws' := [(a0, .inr (6, [.ref a4, .ref a5, .int z98])), (a1, .inr (4, [.int k8, g9, g10, g11, g12, .int k13, g14, g15, g16, .ref a6, g17, g18, g19, g20, g21, g22, g23, g24])), (a4, .inl (cB25, 5, .inl f108)), (a5, .inl (cB27, 5, .inl f100))]) [1, 2, 3, 0] (by decide) rfl) hN 0 rfl rfl) rfl rfl hl.1 rfl (lv_room (Nat.le_of_ble_eq_true rfl)) dX8_fill_97 ⟨Nat.le_of_ble_eq_true rfl, Nat.le_of_ble_eq_true rfl⟩) hP hD hK hS hA [1, 2, 3, 0] [4] rfl rfl (by decide) (by decide) (fun u H locs hw hP hD hK hS => ?_)
                obtain ⟨z110, f111⟩ := u
                have b112 := hw
                have hP : va_P (dC, dI) vwCl [(a6, .inl (cB29, 5, .inl f30)), (a0, .inr (6, [.ref a4, .ref a5, .int z110])), (a1, .inr (4, [.int k8, g9, g10, g11, g12, .int k13, g14, g15, g16, .ref a6, g17, g18, g19, g20, g21, g22, g23, g24])), (a4, .inl (cB25, 5, .inl f108)), (a5, .inl (cB27, 5, .inl f111))] H := hP
                have hD : va_D A [(a6, .inl (cB29, 5, .inl f30)), (a0, .inr (6, [.ref a4, .ref a5, .int z110])), (a1, .inr (4, [.int k8, g9, g10, g11, g12, .int k13, g14, g15, g16, .ref a6, g17, g18, g19, g20, g21, g22, g23, g24])), (a4, .inl (cB25, 5, .inl f108)), (a5, .inl (cB27, 5, .inl f111))] := hD
                have hK : va_K (dC, dI) vwCl [(cB25, .int), (cB27, .int), (cB29, .int)] s := hK
                obtain ⟨z113, ez113⟩ : ∃ y : Int32, y = z97 + 1 := ⟨_, rfl⟩
                have tz113 : z113.toInt = z97.toInt + 1 := by rw [ez113, iadd_t (by simp only [ltv_1]; omega) (by simp only [ltv_1]; omega)]; simp only [ltv_1]
                refine lv_iinc (v := z113) (lv' := [(5, .int z113), (0, .ref a0), (1, .ref a1), (2, .int 4), (3, .int k2), (4, .int k3)]) hx hb dX8_fill_100 hl (k := 0) rfl (by rw [ez113]; rfl) (by decide) rfl (fun ls hl => ?_)
                refine lv_goto (tgt := 52) hx hb dX8_fill_103 (by decide) ?_
                exact ih52 z113 z110 f108 f111 H locs ls (by first | omega | (simp only [ltv_0, ltv_4]; omega)) (by first | omega | (simp only [ltv_0, ltv_4]; omega)) (hP.sub (ws' := [(a0, .inr (6, [.ref a4, .ref a5, .int z110])), (a1, .inr (4, [.int k8, g9, g10, g11, g12, .int k13, g14, g15, g16, .ref a6, g17, g18, g19, g20, g21, g22, g23, g24])), (a4, .inl (cB25, 5, .inl f108)), (a5, .inl (cB27, 5, .inl f111)), (a6, .inl (cB29, 5, .inl f30))]) [1, 2, 3, 4, 0] rfl) (hD.sub (ws' := [(a0, .inr (6, [.ref a4, .ref a5, .int z110])), (a1, .inr (4, [.int k8, g9, g10, g11, g12, .int k13, g14, g15, g16, .ref a6, g17, g18, g19, g20, g21, g22, g23, g24])), (a4, .inl (cB25, 5, .inl f108)), (a5, .inl (cB27, 5, .inl f111)), (a6, .inl (cB29, 5, .inl f30))]) [1, 2, 3, 4, 0] (by decide) rfl) hS (lv_sub hl [0, 1, 2, 3, 4, 5] rfl)
      exact L52_101 9 (0) k7 f26 f28 s.heap _ ls (by first | omega | (simp only [ltv_0, ltv_4]; omega)) (by first | omega | (simp only [ltv_0, ltv_4]; omega)) hP hD hS (lv_sub hl [0, 1, 2, 3, 4, 5] rfl)
    · simp only [fa_lt, fa_le, fa_eq, ltv_0] at c8
      refine lv_aload_n hx hb dX8_fill_30 rfl (lv_at hl 0 rfl) ?_
      refine va_get (D := (dC, dI)) (ci := 6) (v := .ref a4) (C := RX8) (T := TX8) (N := 3) hx hb hts iX8_fill_s4_X8 hown hK hP 0 rfl rfl 0 (by decide) (hts (.fieldLink RX8 9 "HookPier$Seats" "row" "[I") (List.mem_of_getElem? (i := 8) rfl)) (fun _ h9 => h9) rfl dX8_fill_31 ?_
      refine lv_iload_n hx hb dX8_fill_34 rfl (lv_at hl 2 rfl) ?_
      refine lv_iconst (v := (-1)) hx hb dX8_fill_35 (by decide) ?_
      refine va_iast hx hb hK hP hD hS 2 0 rfl rfl (by unfold vp_in; decide) dX8_fill_36 (fun H locs hP hD hS => ?_)
      have hP : va_P (dC, dI) vwCl [(a0, .inr (6, [.ref a4, .ref a5, .int k7])), (a1, .inr (4, [.int k8, g9, g10, g11, g12, .int k13, g14, g15, g16, .ref a6, g17, g18, g19, g20, g21, g22, g23, g24])), (a4, .inl (cB25, 5, .inl (upd f26 (4 : Int32).toNatClampNeg (-1)))), (a5, .inl (cB27, 5, .inl f28)), (a6, .inl (cB29, 5, .inl f30))] H := hP
      have hD : va_D A [(a0, .inr (6, [.ref a4, .ref a5, .int k7])), (a1, .inr (4, [.int k8, g9, g10, g11, g12, .int k13, g14, g15, g16, .ref a6, g17, g18, g19, g20, g21, g22, g23, g24])), (a4, .inl (cB25, 5, .inl (upd f26 (4 : Int32).toNatClampNeg (-1)))), (a5, .inl (cB27, 5, .inl f28)), (a6, .inl (cB29, 5, .inl f30))] := hD
      generalize upd f26 (4 : Int32).toNatClampNeg (-1) = f114 at hP hD
      refine lv_aload_n hx hb dX8_fill_37 rfl (lv_at hl 0 rfl) ?_
      refine lv_aload_n hx hb dX8_fill_38 rfl (lv_at hl 1 rfl) ?_
      refine lv_iload_n hx hb dX8_fill_39 rfl (lv_at hl 2 rfl) ?_
      refine lv_iconst (v := 1) hx hb dX8_fill_40 (by decide) ?_
      refine lv_iadd hx hb dX8_fill_41 ?_
      refine lv_topi (fun z115 ez115 => ?_)
      obtain rfl : z115 = 5 := ez115.trans (by decide)
      refine lv_iload_n hx hb dX8_fill_42 rfl (lv_at hl 3 rfl) ?_
      refine lv_iload hx hb dX8_fill_43 (lv_at hl 4 rfl) ?_
      refine cl_v (wc := [(a0, .inr (6, [.ref a4, .ref a5, .int k7])), (a1, .inr (4, [.int k8, g9, g10, g11, g12, .int k13, g14, g15, g16, .ref a6, g17, g18, g19, g20, g21, g22, g23, g24])), (a4, .inl (cB25, 5, .inl f114)), (a5, .inl (cB27, 5, .inl f28))]) (wr := [(a6, .inl (cB29, 5, .inl f30))]) (va_runV (As := [.ref a1, .int 5, .int k2, .int k3]) (rest := []) ⟨hx, hb, hml, hown, hts⟩ (kX8_fill_s5 l dC dI a0 a1 k2 k3 a4 a5 k7 (.int k8) (g9) (g10) (g11) (g12) k13 (g14) (g15) (g16) (.ref a6) (g17) (g18) (g19) (g20) (g21) (g22) (g23) (g24) cB25 f114 cB27 f28 (by first | omega | (simp only [ltv_0, ltv_5]; omega)) H.size) (cwV 4 hts gX8_fill_s4_2 rfl rfl rfl (by decide +kernel) ⟨Nat.le_of_ble_eq_true rfl, Nat.le_of_ble_eq_true rfl⟩) (PV (hP.sub (ws' := [(a0, .inr (6, [.ref a4, .ref a5, .int k7])), (a1, .inr (4, [.int k8, g9, g10, g11, g12, .int k13, g14, g15, g16, .ref a6, g17, g18, g19, g20, g21, g22, g23, g24])), (a4, .inl (cB25, 5, .inl f114)), (a5, .inl (cB27, 5, .inl f28))]) [0, 1, 2, 3] rfl) (hK.sub (tys' := [(cB25, .int), (cB27, .int)]) [0, 1] rfl) (hD.sub (ws' := [(a0, .inr (6, [.ref a4, .ref a5, .int k7])), (a1, .inr (4, [.int k8, g9, g10, g11, g12, .int k13, g14, g15, g16, .ref a6, g17, g18, g19, g20, g21, g22, g23, g24])), (a4, .inl (cB25, 5, .inl f114)), (a5, .inl (cB27, 5, .inl f28))]) [0, 1, 2, 3] (by decide) rfl) hN 0 rfl rfl) rfl rfl hl.1 rfl (lv_room (Nat.le_of_ble_eq_true rfl)) dX8_fill_45 ⟨Nat.le_of_ble_eq_true rfl, Nat.le_of_ble_eq_true rfl⟩) hP hD hK hS hA [0, 1, 2, 3] [4] rfl rfl (by decide) (by decide) (fun u H locs hw hP hD hK hS => ?_)
      obtain ⟨z116, f117⟩ := u
      have b118 := hw
      have hP : va_P (dC, dI) vwCl [(a6, .inl (cB29, 5, .inl f30)), (a0, .inr (6, [.ref a4, .ref a5, .int z116])), (a1, .inr (4, [.int k8, g9, g10, g11, g12, .int k13, g14, g15, g16, .ref a6, g17, g18, g19, g20, g21, g22, g23, g24])), (a4, .inl (cB25, 5, .inl f114)), (a5, .inl (cB27, 5, .inl f117))] H := hP
      have hD : va_D A [(a6, .inl (cB29, 5, .inl f30)), (a0, .inr (6, [.ref a4, .ref a5, .int z116])), (a1, .inr (4, [.int k8, g9, g10, g11, g12, .int k13, g14, g15, g16, .ref a6, g17, g18, g19, g20, g21, g22, g23, g24])), (a4, .inl (cB25, 5, .inl f114)), (a5, .inl (cB27, 5, .inl f117))] := hD
      have hK : va_K (dC, dI) vwCl [(cB25, .int), (cB27, .int), (cB29, .int)] s := hK
      have hP9 := hP.sub (ws' := [(a0, .inr (6, [.ref a4, .ref a5, .int z116])), (a1, .inr (4, [.int k8, g9, g10, g11, g12, .int k13, g14, g15, g16, .ref a6, g17, g18, g19, g20, g21, g22, g23, g24])), (a4, .inl (cB25, 5, .inl f114)), (a5, .inl (cB27, 5, .inl f117)), (a6, .inl (cB29, 5, .inl f30))]) [1, 2, 3, 4, 0] rfl
      have hD9 := hD.sub (ws' := [(a0, .inr (6, [.ref a4, .ref a5, .int z116])), (a1, .inr (4, [.int k8, g9, g10, g11, g12, .int k13, g14, g15, g16, .ref a6, g17, g18, g19, g20, g21, g22, g23, g24])), (a4, .inl (cB25, 5, .inl f114)), (a5, .inl (cB27, 5, .inl f117)), (a6, .inl (cB29, 5, .inl f30))]) [1, 2, 3, 4, 0] (by decide) rfl
      have hK9 := hK.sub (tys' := []) [] rfl
      exact W.vret hx hb hr (fun t ht hW => ⟨⟨(z116, f114, f117), rfl, trivial, by rw [ht]; exact hP9, va_K.moved hW.alike hK9, hD9⟩, hS.F ht⟩) hS.2.2 dX8_fill_48
def vX8_fill_s3 : List Cond := .code yX8_fill cX8_fill 6 none :: ([.fieldLink RX8 26 "HookPier$Plan" "askers" "I", .methodLink RX8 31 yX8_keepRow, .instanceMethod yX8_keepRow, .selects RX8 yX8_keepRow yX8_keepRow, .initialized RX8, .code yX8_keepRow cX8_keepRow 1 none, .fieldLink RX8 18 "HookPier$Seats" "found" "I", .fieldLink RX8 9 "HookPier$Seats" "row" "[I", .fieldLink RX8 15 "HookPier$Seats" "first" "[I", .methodLink RX8 41 arraycopyName, .native arraycopyName, .static arraycopyName, .initialized "java/lang/System", .fieldLink RX8 34 "HookPier$Plan" "spots" "I", .methodLink RX8 37 yX8_isFree, .instanceMethod yX8_isFree, .selects RX8 yX8_isFree yX8_isFree, .code yX8_isFree cX8_isFree 5 (some .boolean), .methodLink RX8 47 yX6_isTangle, .instanceMethod yX6_isTangle, .selects RX6 yX6_isTangle yX6_isTangle, .initialized RX6, .code yX6_isTangle cX6_isTangle 5 (some .boolean), .methodLink RX6 89 Lib.Math.abs.name, .static Lib.Math.abs.name, .initialized "java/lang/Math", .code Lib.Math.abs.name Lib.Math.abs.code 1 (some .int), .fieldLink RX6 39 "HookPier$Plan" "reach" "[I", .methodLink RX8 22 yX8_fill, .instanceMethod yX8_fill, .selects RX8 yX8_fill yX8_fill, .code yX8_fill cX8_fill 6 none] ++ wsX60 ++ wsX80)
theorem iX8_fill_s3_X6 : ∀ w ∈ wsX60, w ∈ vX8_fill_s3 := fun _ h => List.mem_cons_of_mem _ (List.mem_append_left _ (List.mem_append_right _ h))
theorem iX8_fill_s3_X8 : ∀ w ∈ wsX80, w ∈ vX8_fill_s3 := fun _ h => List.mem_cons_of_mem _ (List.mem_append_right _ h)
set_option maxRecDepth 20000 in
theorem gX8_fill_s3_0 : GoodIn vX8_fill_s3 (wsV RX8 31 RX8 yX8_keepRow vX8_keepRow) := goodIn_app (goodIn_r [.methodLink RX8 31 yX8_keepRow, .instanceMethod yX8_keepRow, .selects RX8 yX8_keepRow yX8_keepRow, .initialized RX8] [2, 3, 4, 5] (by decide +kernel) (by decide +kernel)) (goodIn_ca (goodIn_r (.code yX8_keepRow cX8_keepRow 1 none :: [.fieldLink RX8 18 "HookPier$Seats" "found" "I", .fieldLink RX8 9 "HookPier$Seats" "row" "[I", .fieldLink RX8 15 "HookPier$Seats" "first" "[I", .methodLink RX8 41 arraycopyName, .native arraycopyName, .static arraycopyName, .initialized "java/lang/System"]) [6, 7, 8, 9, 10, 11, 12, 13] (by decide +kernel) (by decide +kernel) : GoodIn vX8_fill_s3 (.code yX8_keepRow cX8_keepRow 1 none :: [.fieldLink RX8 18 "HookPier$Seats" "found" "I", .fieldLink RX8 9 "HookPier$Seats" "row" "[I", .fieldLink RX8 15 "HookPier$Seats" "first" "[I", .methodLink RX8 41 arraycopyName, .native arraycopyName, .static arraycopyName, .initialized "java/lang/System"])) (goodIn_sub iX8_fill_s3_X8 (by decide +kernel)))
set_option maxRecDepth 20000 in
theorem gX8_fill_s3_1 : GoodIn vX8_fill_s3 (wsV RX8 37 RX8 yX8_isFree vX8_isFree) := goodIn_app (goodIn_r [.methodLink RX8 37 yX8_isFree, .instanceMethod yX8_isFree, .selects RX8 yX8_isFree yX8_isFree, .initialized RX8] [15, 16, 17, 5] (by decide +kernel) (by decide +kernel)) (goodIn_ca (goodIn_ca (goodIn_r (.code yX8_isFree cX8_isFree 5 (some .boolean) :: [.fieldLink RX8 9 "HookPier$Seats" "row" "[I", .methodLink RX8 47 yX6_isTangle, .instanceMethod yX6_isTangle, .selects RX6 yX6_isTangle yX6_isTangle, .initialized RX6, .code yX6_isTangle cX6_isTangle 5 (some .boolean), .methodLink RX6 89 Lib.Math.abs.name, .static Lib.Math.abs.name, .initialized "java/lang/Math", .code Lib.Math.abs.name Lib.Math.abs.code 1 (some .int), .fieldLink RX6 39 "HookPier$Plan" "reach" "[I"]) [18, 8, 19, 20, 21, 22, 23, 24, 25, 26, 27, 28] (by decide +kernel) (by decide +kernel) : GoodIn vX8_fill_s3 (.code yX8_isFree cX8_isFree 5 (some .boolean) :: [.fieldLink RX8 9 "HookPier$Seats" "row" "[I", .methodLink RX8 47 yX6_isTangle, .instanceMethod yX6_isTangle, .selects RX6 yX6_isTangle yX6_isTangle, .initialized RX6, .code yX6_isTangle cX6_isTangle 5 (some .boolean), .methodLink RX6 89 Lib.Math.abs.name, .static Lib.Math.abs.name, .initialized "java/lang/Math", .code Lib.Math.abs.name Lib.Math.abs.code 1 (some .int), .fieldLink RX6 39 "HookPier$Plan" "reach" "[I"])) (goodIn_sub iX8_fill_s3_X8 (by decide +kernel))) (goodIn_sub iX8_fill_s3_X6 (by decide +kernel)))
set_option maxRecDepth 20000 in
theorem gX8_fill_s3_2 : GoodIn vX8_fill_s3 (wsV RX8 22 RX8 yX8_fill vX8_fill_s4) := goodIn_app (goodIn_r [.methodLink RX8 22 yX8_fill, .instanceMethod yX8_fill, .selects RX8 yX8_fill yX8_fill, .initialized RX8] [29, 30, 31, 5] (by decide +kernel) (by decide +kernel)) (goodIn_ca (goodIn_ca (goodIn_r (.code yX8_fill cX8_fill 6 none :: [.fieldLink RX8 26 "HookPier$Plan" "askers" "I", .methodLink RX8 31 yX8_keepRow, .instanceMethod yX8_keepRow, .selects RX8 yX8_keepRow yX8_keepRow, .initialized RX8, .code yX8_keepRow cX8_keepRow 1 none, .fieldLink RX8 18 "HookPier$Seats" "found" "I", .fieldLink RX8 9 "HookPier$Seats" "row" "[I", .fieldLink RX8 15 "HookPier$Seats" "first" "[I", .methodLink RX8 41 arraycopyName, .native arraycopyName, .static arraycopyName, .initialized "java/lang/System", .fieldLink RX8 34 "HookPier$Plan" "spots" "I", .methodLink RX8 37 yX8_isFree, .instanceMethod yX8_isFree, .selects RX8 yX8_isFree yX8_isFree, .code yX8_isFree cX8_isFree 5 (some .boolean), .methodLink RX8 47 yX6_isTangle, .instanceMethod yX6_isTangle, .selects RX6 yX6_isTangle yX6_isTangle, .initialized RX6, .code yX6_isTangle cX6_isTangle 5 (some .boolean), .methodLink RX6 89 Lib.Math.abs.name, .static Lib.Math.abs.name, .initialized "java/lang/Math", .code Lib.Math.abs.name Lib.Math.abs.code 1 (some .int), .fieldLink RX6 39 "HookPier$Plan" "reach" "[I", .methodLink RX8 22 yX8_fill, .instanceMethod yX8_fill, .selects RX8 yX8_fill yX8_fill, .code yX8_fill cX8_fill 6 none]) [0, 1, 2, 3, 4, 5, 6, 7, 8, 9, 10, 11, 12, 13, 14, 15, 16, 17, 18, 19, 20, 21, 22, 23, 24, 25, 26, 27, 28, 29, 30, 31, 0] (by decide +kernel) (by decide +kernel) : GoodIn vX8_fill_s3 (.code yX8_fill cX8_fill 6 none :: [.fieldLink RX8 26 "HookPier$Plan" "askers" "I", .methodLink RX8 31 yX8_keepRow, .instanceMethod yX8_keepRow, .selects RX8 yX8_keepRow yX8_keepRow, .initialized RX8, .code yX8_keepRow cX8_keepRow 1 none, .fieldLink RX8 18 "HookPier$Seats" "found" "I", .fieldLink RX8 9 "HookPier$Seats" "row" "[I", .fieldLink RX8 15 "HookPier$Seats" "first" "[I", .methodLink RX8 41 arraycopyName, .native arraycopyName, .static arraycopyName, .initialized "java/lang/System", .fieldLink RX8 34 "HookPier$Plan" "spots" "I", .methodLink RX8 37 yX8_isFree, .instanceMethod yX8_isFree, .selects RX8 yX8_isFree yX8_isFree, .code yX8_isFree cX8_isFree 5 (some .boolean), .methodLink RX8 47 yX6_isTangle, .instanceMethod yX6_isTangle, .selects RX6 yX6_isTangle yX6_isTangle, .initialized RX6, .code yX6_isTangle cX6_isTangle 5 (some .boolean), .methodLink RX6 89 Lib.Math.abs.name, .static Lib.Math.abs.name, .initialized "java/lang/Math", .code Lib.Math.abs.name Lib.Math.abs.code 1 (some .int), .fieldLink RX6 39 "HookPier$Plan" "reach" "[I", .methodLink RX8 22 yX8_fill, .instanceMethod yX8_fill, .selects RX8 yX8_fill yX8_fill, .code yX8_fill cX8_fill 6 none])) (goodIn_sub iX8_fill_s3_X6 (by decide +kernel))) (goodIn_sub iX8_fill_s3_X8 (by decide +kernel)))
set_option maxHeartbeats 2000000 in
set_option maxRecDepth 100000 in
theorem kX8_fill_s3 (l : Launch) (dC : Nat → ClassId) (dI : Nat → Nat → Nat) (a0 : Nat) (a1 : Nat) (k2 : Int32) (k3 : Int32) (a4 : Nat) (a5 : Nat) (a6 : Nat) (k7 : Int32) (k8 : Int32) (g9 : Value) (g10 : Value) (g11 : Value) (g12 : Value) (k13 : Int32) (g14 : Value) (g15 : Value) (g16 : Value) (g17 : Value) (g18 : Value) (g19 : Value) (g20 : Value) (g21 : Value) (g22 : Value) (g23 : Value) (g24 : Value) (cB25 : ClassId) (f26 : Nat → Int32) (cB27 : ClassId) (f28 : Nat → Int32) (cB29 : ClassId) (f30 : Nat → Int32) (hk8 : (0 ≤ k8.toInt ∧ k8.toInt ≤ 8)) (hk13 : (0 ≤ k13.toInt ∧ k13.toInt ≤ 5)) (sz : Nat) : Met l yX8_fill vX8_fill_s3 ({ frames := 4, cells := 0, slots := 0, locals := 110 }) (PC (dC, dI) [.ref a0, .ref a1, .int 3, .int k2, .int k3] sz [(a0, .inr (6, [.ref a4, .ref a5, .int k7])), (a1, .inr (4, [.int k8, g9, g10, g11, g12, .int k13, g14, g15, g16, .ref a6, g17, g18, g19, g20, g21, g22, g23, g24])), (a4, .inl (cB25, 5, .inl f26)), (a5, .inl (cB27, 5, .inl f28)), (a6, .inl (cB29, 5, .inl f30))] [(cB25, .int), (cB27, .int), (cB29, .int)]) (va_Qv (S := Int32 × (Nat → Int32) × (Nat → Int32)) (fun u => True) (fun u t => BC (dC, dI) (va_A [(a0, .inr (6, [.ref a4, .ref a5, .int k7])), (a1, .inr (4, [.int k8, g9, g10, g11, g12, .int k13, g14, g15, g16, .ref a6, g17, g18, g19, g20, g21, g22, g23, g24])), (a4, .inl (cB25, 5, .inl f26)), (a5, .inl (cB27, 5, .inl f28)), (a6, .inl (cB29, 5, .inl f30))] sz) [(a0, .inr (6, [.ref a4, .ref a5, .int (u.1)])), (a1, .inr (4, [.int k8, g9, g10, g11, g12, .int k13, g14, g15, g16, .ref a6, g17, g18, g19, g20, g21, g22, g23, g24])), (a4, .inl (cB25, 5, .inl (u.2.1))), (a5, .inl (cB27, 5, .inl (u.2.2))), (a6, .inl (cB29, 5, .inl f30))] [] t) (va_A [(a0, .inr (6, [.ref a4, .ref a5, .int k7])), (a1, .inr (4, [.int k8, g9, g10, g11, g12, .int k13, g14, g15, g16, .ref a6, g17, g18, g19, g20, g21, g22, g23, g24])), (a4, .inl (cB25, 5, .inl f26)), (a5, .inl (cB27, 5, .inl f28)), (a6, .inl (cB29, 5, .inl f30))] sz)) 0 0 (va_A [(a0, .inr (6, [.ref a4, .ref a5, .int k7])), (a1, .inr (4, [.int k8, g9, g10, g11, g12, .int k13, g14, g15, g16, .ref a6, g17, g18, g19, g20, g21, g22, g23, g24])), (a4, .inl (cB25, 5, .inl f26)), (a5, .inl (cB27, 5, .inl f28)), (a6, .inl (cB29, 5, .inl f30))] sz) := by
  refine Met.ofW (cc := cX8_fill) (maxL := 6) (ret := none) (by decide) rfl ?_
  intro p e s m args below meth c s₁ B hml hv
  obtain ⟨rfl, hsz, hP, hK, hD0, hN⟩ := hv
  have hx := B.exec
  have hb := B.bytes
  have hr := B.returns
  have hts := atoms_spec (ws := vX8_fill_s3) B.pre
  have hown : s.vm.findClass RX8 = some m.cls := findClass_of_methodNamed B.named
  have hlocks := B.notSynchronized
  subst hsz
  have hD := hD0.self (sz := s.heap.size)
  generalize hAe : va_A [(a0, .inr (6, [.ref a4, .ref a5, .int k7])), (a1, .inr (4, [.int k8, g9, g10, g11, g12, .int k13, g14, g15, g16, .ref a6, g17, g18, g19, g20, g21, g22, g23, g24])), (a4, .inl (cB25, 5, .inl f26)), (a5, .inl (cB27, 5, .inl f28)), (a6, .inl (cB29, 5, .inl f30))] s.heap.size = A at hD ⊢
  have hA : ∀ q : Nat, s.heap.size ≤ q → A q := fun q h => by rw [← hAe]; exact Or.inr h
  have hS : va_S A s.heap s.heap [] := va_S.rf
  have hP : va_P (dC, dI) vwCl [(a0, .inr (6, [.ref a4, .ref a5, .int k7])), (a1, .inr (4, [.int k8, g9, g10, g11, g12, .int k13, g14, g15, g16, .ref a6, g17, g18, g19, g20, g21, g22, g23, g24])), (a4, .inl (cB25, 5, .inl f26)), (a5, .inl (cB27, 5, .inl f28)), (a6, .inl (cB29, 5, .inl f30))] s.heap := hP
  have hl := lv_entry ([.ref a0, .ref a1, .int 3, .int k2, .int k3]) (n := 6) (Nat.le_of_ble_eq_true rfl)
  rw [lg_entry_eq]
  generalize (lg_sl ([.ref a0, .ref a1, .int 3, .int k2, .int k3]) ++ List.replicate (6 - (lg_sl ([.ref a0, .ref a1, .int 3, .int k2, .int k3])).length) Slot.unset).toArray = ls at hl ⊢
  have hl : lv_has ls 6 [(0, .ref a0), (1, .ref a1), (2, .int 3), (3, .int k2), (4, .int k3)] := hl
  refine lv_iload_n hx hb dX8_fill_0 rfl (lv_at hl 2 rfl) ?_
  refine lv_aload_n hx hb dX8_fill_1 rfl (lv_at hl 1 rfl) ?_
  refine va_get (D := (dC, dI)) (ci := 4) (v := .int k13) (C := RX6) (T := TX6) (N := 18) hx hb hts iX8_fill_s3_X6 hown hK hP 1 rfl rfl 5 (by decide) (hts (.fieldLink RX8 26 "HookPier$Plan" "askers" "I") (List.mem_of_getElem? (i := 1) rfl)) (fun _ h9 => h9) rfl dX8_fill_2 ?_
  refine lv_icmp_ge (tgt := 17) hx hb dX8_fill_5 (by decide) (fun c1 => ?_) (fun c1 => ?_)
  · simp only [fa_lt, fa_le, fa_eq, ltv_0, ltv_3] at c1
    refine lv_aload_n hx hb dX8_fill_17 rfl (lv_at hl 0 rfl) ?_
    refine cl_v (wc := [(a0, .inr (6, [.ref a4, .ref a5, .int k7])), (a4, .inl (cB25, 5, .inl f26)), (a5, .inl (cB27, 5, .inl f28))]) (wr := [(a1, .inr (4, [.int k8, g9, g10, g11, g12, .int k13, g14, g15, g16, .ref a6, g17, g18, g19, g20, g21, g22, g23, g24])), (a6, .inl (cB29, 5, .inl f30))]) (va_runV (As := []) (rest := []) ⟨hx, hb, hml, hown, hts⟩ (kX8_keepRow l dC dI a0 a4 a5 k7 cB25 f26 cB27 f28  s.heap.size) (cwV 0 hts gX8_fill_s3_0 rfl rfl rfl (by decide +kernel) ⟨Nat.le_of_ble_eq_true rfl, Nat.le_of_ble_eq_true rfl⟩) (PV (hP.sub (ws' := [(a0, .inr (6, [.ref a4, .ref a5, .int k7])), (a4, .inl (cB25, 5, .inl f26)), (a5, .inl (cB27, 5, .inl f28))]) [0, 2, 3] rfl) (hK.sub (tys' := [(cB25, .int), (cB27, .int)]) [0, 1] rfl) (hD.sub (ws' := [(a0, .inr (6, [.ref a4, .ref a5, .int k7])), (a4, .inl (cB25, 5, .inl f26)), (a5, .inl (cB27, 5, .inl f28))]) [0, 2, 3] (by decide) rfl) hN 0 rfl rfl) rfl rfl hl.1 rfl (lv_room (Nat.le_of_ble_eq_true rfl)) dX8_fill_18 ⟨Nat.le_of_ble_eq_true rfl, Nat.le_of_ble_eq_true rfl⟩) hP hD hK hS hA [0, 2, 3] [1, 4] rfl rfl (by decide) (by decide) (fun u H locs hw hP hD hK hS => ?_)
    obtain ⟨z2, f3⟩ := u
    have b4 := hw
    have hP : va_P (dC, dI) vwCl [(a1, .inr (4, [.int k8, g9, g10, g11, g12, .int k13, g14, g15, g16, .ref a6, g17, g18, g19, g20, g21, g22, g23, g24])), (a6, .inl (cB29, 5, .inl f30)), (a0, .inr (6, [.ref a4, .ref a5, .int z2])), (a4, .inl (cB25, 5, .inl f26)), (a5, .inl (cB27, 5, .inl f3))] H := hP
    have hD : va_D A [(a1, .inr (4, [.int k8, g9, g10, g11, g12, .int k13, g14, g15, g16, .ref a6, g17, g18, g19, g20, g21, g22, g23, g24])), (a6, .inl (cB29, 5, .inl f30)), (a0, .inr (6, [.ref a4, .ref a5, .int z2])), (a4, .inl (cB25, 5, .inl f26)), (a5, .inl (cB27, 5, .inl f3))] := hD
    have hK : va_K (dC, dI) vwCl [(cB25, .int), (cB27, .int), (cB29, .int)] s := hK
    have hP9 := hP.sub (ws' := [(a0, .inr (6, [.ref a4, .ref a5, .int z2])), (a1, .inr (4, [.int k8, g9, g10, g11, g12, .int k13, g14, g15, g16, .ref a6, g17, g18, g19, g20, g21, g22, g23, g24])), (a4, .inl (cB25, 5, .inl f26)), (a5, .inl (cB27, 5, .inl f3)), (a6, .inl (cB29, 5, .inl f30))]) [2, 0, 3, 4, 1] rfl
    have hD9 := hD.sub (ws' := [(a0, .inr (6, [.ref a4, .ref a5, .int z2])), (a1, .inr (4, [.int k8, g9, g10, g11, g12, .int k13, g14, g15, g16, .ref a6, g17, g18, g19, g20, g21, g22, g23, g24])), (a4, .inl (cB25, 5, .inl f26)), (a5, .inl (cB27, 5, .inl f3)), (a6, .inl (cB29, 5, .inl f30))]) [2, 0, 3, 4, 1] (by decide) rfl
    have hK9 := hK.sub (tys' := []) [] rfl
    exact W.vret hx hb hr (fun t ht hW => ⟨⟨(z2, f26, f3), rfl, trivial, by rw [ht]; exact hP9, va_K.moved hW.alike hK9, hD9⟩, hS.F ht⟩) hS.2.2 dX8_fill_21
  · simp only [fa_lt, fa_le, fa_eq, ltv_0, ltv_3] at c1
    refine lv_iload_n hx hb dX8_fill_8 rfl (lv_at hl 2 rfl) ?_
    refine lv_aload_n hx hb dX8_fill_9 rfl (lv_at hl 0 rfl) ?_
    refine va_get (D := (dC, dI)) (ci := 6) (v := .ref a4) (C := RX8) (T := TX8) (N := 3) hx hb hts iX8_fill_s3_X8 hown hK hP 0 rfl rfl 0 (by decide) (hts (.fieldLink RX8 9 "HookPier$Seats" "row" "[I") (List.mem_of_getElem? (i := 8) rfl)) (fun _ h9 => h9) rfl dX8_fill_10 ?_
    refine va_alen (v := 5) hx hb hK hP 2 0 rfl rfl rfl dX8_fill_13 ?_
    refine lv_icmp_lt (tgt := 22) hx hb dX8_fill_14 (by decide) (fun _ => ?_) (fun c5 => absurd c5 (by decide))
    refine lv_iload_n hx hb dX8_fill_22 rfl (lv_at hl 3 rfl) ?_
    refine lv_iload_n hx hb dX8_fill_23 rfl (lv_at hl 2 rfl) ?_
    refine lv_ishr hx hb dX8_fill_24 ?_
    refine lv_topi (fun z6 ez6 => ?_)
    clear ez6
    refine lv_iconst (v := 1) hx hb dX8_fill_25 (by decide) ?_
    refine lv_iand hx hb dX8_fill_26 ?_
    refine lv_topi (fun z7 ez7 => ?_)
    clear ez7
    refine lv_if_ne (tgt := 49) hx hb dX8_fill_27 (by decide) (fun c8 => ?_) (fun c8 => ?_)
    · simp only [fa_lt, fa_le, fa_eq, ltv_0] at c8
      refine lv_iconst (v := 0) hx hb dX8_fill_49 (by decide) ?_
      refine lv_istore (lv' := [(5, .int 0), (0, .ref a0), (1, .ref a1), (2, .int 3), (3, .int k2), (4, .int k3)]) hx hb dX8_fill_50 hl (by decide) rfl (fun ls hl => ?_)
      have L52_110 : ∀ (n : Nat) (z106 : Int32) (z107 : Int32) (f108 : Nat → Int32) (f109 : Nat → Int32) (H : Heap) (locs : List Loc) (ls : Array Slot), (0 ≤ z106.toInt ∧ z106.toInt ≤ 8) → 8 - z106.toInt < (n : Int) → va_P (dC, dI) vwCl [(a0, .inr (6, [.ref a4, .ref a5, .int z107])), (a1, .inr (4, [.int k8, g9, g10, g11, g12, .int k13, g14, g15, g16, .ref a6, g17, g18, g19, g20, g21, g22, g23, g24])), (a4, .inl (cB25, 5, .inl f108)), (a5, .inl (cB27, 5, .inl f109)), (a6, .inl (cB29, 5, .inl f30))] H → va_D A [(a0, .inr (6, [.ref a4, .ref a5, .int z107])), (a1, .inr (4, [.int k8, g9, g10, g11, g12, .int k13, g14, g15, g16, .ref a6, g17, g18, g19, g20, g21, g22, g23, g24])), (a4, .inl (cB25, 5, .inl f108)), (a5, .inl (cB27, 5, .inl f109)), (a6, .inl (cB29, 5, .inl f30))] → va_S A s.heap H locs → lv_has ls 6 [(5, .int z106), (0, .ref a0), (1, .ref a1), (2, .int 3), (3, .int k2), (4, .int k3)] → W p l e (headSpec vX8_fill_s3 { frames := 4, cells := 0, slots := 0, locals := 110 }).room s m ([.ref a0, .ref a1, .int 3, .int k2, .int k3]).toArray below meth c H locs 0 0 (MQ below (va_Qv (S := Int32 × (Nat → Int32) × (Nat → Int32)) (fun u => True) (fun u t => BC (dC, dI) A [(a0, .inr (6, [.ref a4, .ref a5, .int (u.1)])), (a1, .inr (4, [.int k8, g9, g10, g11, g12, .int k13, g14, g15, g16, .ref a6, g17, g18, g19, g20, g21, g22, g23, g24])), (a4, .inl (cB25, 5, .inl (u.2.1))), (a5, .inl (cB27, 5, .inl (u.2.2))), (a6, .inl (cB29, 5, .inl f30))] [] t) A) ([.ref a0, .ref a1, .int 3, .int k2, .int k3]).toArray s 0 0 A) (F0 m 52 ls []) := by
        intro n
        induction n with
        | zero =>
          intro z106 z107 f108 f109 H locs ls b52_0 hm _ _ _ _
          exact absurd hm (by omega)
        | succ n ih52 =>
          intro z106 z107 f108 f109 H locs ls b52_0 hm52 hP hD hS hl
          refine lv_iload hx hb dX8_fill_52 (lv_at hl 0 rfl) ?_
          refine lv_aload_n hx hb dX8_fill_54 rfl (lv_at hl 2 rfl) ?_
          refine va_get (D := (dC, dI)) (ci := 4) (v := .int k8) (C := RX6) (T := TX6) (N := 18) hx hb hts iX8_fill_s3_X6 hown hK hP 1 rfl rfl 0 (by decide) (hts (.fieldLink RX8 34 "HookPier$Plan" "spots" "I") (List.mem_of_getElem? (i := 14) rfl)) (fun _ h9 => h9) rfl dX8_fill_55 ?_
          refine lv_icmp_ge (tgt := 106) hx hb dX8_fill_58 (by decide) (fun c111 => ?_) (fun c111 => ?_)
          · simp only [fa_lt, fa_le, fa_eq, ltv_0] at c111
            have hP9 := hP.sub (ws' := [(a0, .inr (6, [.ref a4, .ref a5, .int z107])), (a1, .inr (4, [.int k8, g9, g10, g11, g12, .int k13, g14, g15, g16, .ref a6, g17, g18, g19, g20, g21, g22, g23, g24])), (a4, .inl (cB25, 5, .inl f108)), (a5, .inl (cB27, 5, .inl f109)), (a6, .inl (cB29, 5, .inl f30))]) [0, 1, 2, 3, 4] rfl
            have hD9 := hD.sub (ws' := [(a0, .inr (6, [.ref a4, .ref a5, .int z107])), (a1, .inr (4, [.int k8, g9, g10, g11, g12, .int k13, g14, g15, g16, .ref a6, g17, g18, g19, g20, g21, g22, g23, g24])), (a4, .inl (cB25, 5, .inl f108)), (a5, .inl (cB27, 5, .inl f109)), (a6, .inl (cB29, 5, .inl f30))]) [0, 1, 2, 3, 4] (by decide) rfl
            have hK9 := hK.sub (tys' := []) [] rfl
            exact W.vret hx hb hr (fun t ht hW => ⟨⟨(z107, f108, f109), rfl, trivial, by rw [ht]; exact hP9, va_K.moved hW.alike hK9, hD9⟩, hS.F ht⟩) hS.2.2 dX8_fill_106
          · simp only [fa_lt, fa_le, fa_eq, ltv_0] at c111
            refine lv_aload_n hx hb dX8_fill_61 rfl (lv_at hl 1 rfl) ?_
            refine va_get (D := (dC, dI)) (ci := 6) (v := .int z107) (C := RX8) (T := TX8) (N := 3) hx hb hts iX8_fill_s3_X8 hown hK hP 0 rfl rfl 2 (by decide) (hts (.fieldLink RX8 18 "HookPier$Seats" "found" "I") (List.mem_of_getElem? (i := 7) rfl)) (fun _ h9 => h9) rfl dX8_fill_62 ?_
            refine lv_iload hx hb dX8_fill_65 (lv_at hl 5 rfl) ?_
            refine lv_icmp_ge (tgt := 106) hx hb dX8_fill_67 (by decide) (fun c112 => ?_) (fun c112 => ?_)
            · simp only [fa_lt, fa_le, fa_eq, ltv_0] at c112
              have hP9 := hP.sub (ws' := [(a0, .inr (6, [.ref a4, .ref a5, .int z107])), (a1, .inr (4, [.int k8, g9, g10, g11, g12, .int k13, g14, g15, g16, .ref a6, g17, g18, g19, g20, g21, g22, g23, g24])), (a4, .inl (cB25, 5, .inl f108)), (a5, .inl (cB27, 5, .inl f109)), (a6, .inl (cB29, 5, .inl f30))]) [0, 1, 2, 3, 4] rfl
              have hD9 := hD.sub (ws' := [(a0, .inr (6, [.ref a4, .ref a5, .int z107])), (a1, .inr (4, [.int k8, g9, g10, g11, g12, .int k13, g14, g15, g16, .ref a6, g17, g18, g19, g20, g21, g22, g23, g24])), (a4, .inl (cB25, 5, .inl f108)), (a5, .inl (cB27, 5, .inl f109)), (a6, .inl (cB29, 5, .inl f30))]) [0, 1, 2, 3, 4] (by decide) rfl
              have hK9 := hK.sub (tys' := []) [] rfl
              exact W.vret hx hb hr (fun t ht hW => ⟨⟨(z107, f108, f109), rfl, trivial, by rw [ht]; exact hP9, va_K.moved hW.alike hK9, hD9⟩, hS.F ht⟩) hS.2.2 dX8_fill_106
            · simp only [fa_lt, fa_le, fa_eq, ltv_0] at c112
              refine lv_aload_n hx hb dX8_fill_70 rfl (lv_at hl 1 rfl) ?_
              refine lv_aload_n hx hb dX8_fill_71 rfl (lv_at hl 2 rfl) ?_
              refine lv_iload_n hx hb dX8_fill_72 rfl (lv_at hl 3 rfl) ?_
              refine lv_iload hx hb dX8_fill_73 (lv_at hl 0 rfl) ?_
              refine cl_i (wc := [(a0, .inr (6, [.ref a4, .ref a5, .int z107])), (a1, .inr (4, [.int k8, g9, g10, g11, g12, .int k13, g14, g15, g16, .ref a6, g17, g18, g19, g20, g21, g22, g23, g24])), (a4, .inl (cB25, 5, .inl f108)), (a6, .inl (cB29, 5, .inl f30))]) (wr := [(a5, .inl (cB27, 5, .inl f109))]) (va_runV (As := [.ref a1, .int 3, .int z106]) (rest := []) ⟨hx, hb, hml, hown, hts⟩ (kX8_isFree l dC dI a0 a1 3 z106 a4 a6 (.ref a5) (.int z107) (.int k8) (g9) (g10) (g11) (g12) (.int k13) (g14) (g15) (g16) (g17) (g18) (g19) (g20) (g21) (g22) (g23) (g24) cB25 f108 cB29 f30 (by first | omega | (simp only [ltv_0, ltv_3]; omega)) H.size) (cwV 3 hts gX8_fill_s3_1 rfl rfl rfl (by decide +kernel) ⟨Nat.le_of_ble_eq_true rfl, Nat.le_of_ble_eq_true rfl⟩) (PV (hP.sub (ws' := [(a0, .inr (6, [.ref a4, .ref a5, .int z107])), (a1, .inr (4, [.int k8, g9, g10, g11, g12, .int k13, g14, g15, g16, .ref a6, g17, g18, g19, g20, g21, g22, g23, g24])), (a4, .inl (cB25, 5, .inl f108)), (a6, .inl (cB29, 5, .inl f30))]) [0, 1, 2, 4] rfl) (hK.sub (tys' := [(cB25, .int), (cB29, .int)]) [0, 2] rfl) (hD.sub (ws' := [(a0, .inr (6, [.ref a4, .ref a5, .int z107])), (a1, .inr (4, [.int k8, g9, g10, g11, g12, .int k13, g14, g15, g16, .ref a6, g17, g18, g19, g20, g21, g22, g23, g24])), (a4, .inl (cB25, 5, .inl f108)), (a6, .inl (cB29, 5, .inl f30))]) [0, 1, 2, 4] (by decide) rfl) hN 0 rfl rfl) rfl rfl hl.1 rfl (lv_room (Nat.le_of_ble_eq_true rfl)) dX8_fill_75 ⟨Nat.le_of_ble_eq_true rfl, Nat.le_of_ble_eq_true rfl⟩) hP hD hK hS hA [0, 1, 2, 4] [3] rfl rfl (by decide) (by decide) (fun z113 _u H locs hw hP hD hK hS => ?_)
              have b114 := hw
              have hP : va_P (dC, dI) vwCl [(a5, .inl (cB27, 5, .inl f109)), (a0, .inr (6, [.ref a4, .ref a5, .int z107])), (a1, .inr (4, [.int k8, g9, g10, g11, g12, .int k13, g14, g15, g16, .ref a6, g17, g18, g19, g20, g21, g22, g23, g24])), (a4, .inl (cB25, 5, .inl f108)), (a6, .inl (cB29, 5, .inl f30))] H := hP
              have hD : va_D A [(a5, .inl (cB27, 5, .inl f109)), (a0, .inr (6, [.ref a4, .ref a5, .int z107])), (a1, .inr (4, [.int k8, g9, g10, g11, g12, .int k13, g14, g15, g16, .ref a6, g17, g18, g19, g20, g21, g22, g23, g24])), (a4, .inl (cB25, 5, .inl f108)), (a6, .inl (cB29, 5, .inl f30))] := hD
              have hK : va_K (dC, dI) vwCl [(cB25, .int), (cB27, .int), (cB29, .int)] s := hK
              refine lv_if_eq (tgt := 100) hx hb dX8_fill_78 (by decide) (fun c115 => ?_) (fun c115 => ?_)
              · simp only [fa_lt, fa_le, fa_eq, ltv_0] at c115
                obtain ⟨z116, ez116⟩ : ∃ y : Int32, y = z106 + 1 := ⟨_, rfl⟩
                have tz116 : z116.toInt = z106.toInt + 1 := by rw [ez116, iadd_t (by simp only [ltv_1]; omega) (by simp only [ltv_1]; omega)]; simp only [ltv_1]
                refine lv_iinc (v := z116) (lv' := [(5, .int z116), (0, .ref a0), (1, .ref a1), (2, .int 3), (3, .int k2), (4, .int k3)]) hx hb dX8_fill_100 hl (k := 0) rfl (by rw [ez116]; rfl) (by decide) rfl (fun ls hl => ?_)
                refine lv_goto (tgt := 52) hx hb dX8_fill_103 (by decide) ?_
                exact ih52 z116 z107 f108 f109 H locs ls (by first | omega | (simp only [ltv_0, ltv_3]; omega)) (by first | omega | (simp only [ltv_0, ltv_3]; omega)) (hP.sub (ws' := [(a0, .inr (6, [.ref a4, .ref a5, .int z107])), (a1, .inr (4, [.int k8, g9, g10, g11, g12, .int k13, g14, g15, g16, .ref a6, g17, g18, g19, g20, g21, g22, g23, g24])), (a4, .inl (cB25, 5, .inl f108)), (a5, .inl (cB27, 5, .inl f109)), (a6, .inl (cB29, 5, .inl f30))]) [1, 2, 3, 0, 4] rfl) (hD.sub (ws' := [(a0, .inr (6, [.ref a4, .ref a5, .int z107])), (a1, .inr (4, [.int k8, g9, g10, g11, g12, .int k13, g14, g15, g16, .ref a6, g17, g18, g19, g20, g21, g22, g23, g24])), (a4, .inl (cB25, 5, .inl f108)), (a5, .inl (cB27, 5, .inl f109)), (a6, .inl (cB29, 5, .inl f30))]) [1, 2, 3, 0, 4] (by decide) rfl) hS (lv_sub hl [0, 1, 2, 3, 4, 5] rfl)
              · simp only [fa_lt, fa_le, fa_eq, ltv_0] at c115
                refine lv_aload_n hx hb dX8_fill_81 rfl (lv_at hl 1 rfl) ?_
                refine va_get (D := (dC, dI)) (ci := 6) (v := .ref a4) (C := RX8) (T := TX8) (N := 3) hx hb hts iX8_fill_s3_X8 hown hK hP 1 rfl rfl 0 (by decide) (hts (.fieldLink RX8 9 "HookPier$Seats" "row" "[I") (List.mem_of_getElem? (i := 8) rfl)) (fun _ h9 => h9) rfl dX8_fill_82 ?_
                refine lv_iload_n hx hb dX8_fill_85 rfl (lv_at hl 3 rfl) ?_
                refine lv_iload hx hb dX8_fill_86 (lv_at hl 0 rfl) ?_
                refine va_iast hx hb hK hP hD hS 3 0 rfl rfl (by unfold vp_in; decide) dX8_fill_88 (fun H locs hP hD hS => ?_)
                have hP : va_P (dC, dI) vwCl [(a5, .inl (cB27, 5, .inl f109)), (a0, .inr (6, [.ref a4, .ref a5, .int z107])), (a1, .inr (4, [.int k8, g9, g10, g11, g12, .int k13, g14, g15, g16, .ref a6, g17, g18, g19, g20, g21, g22, g23, g24])), (a4, .inl (cB25, 5, .inl (upd f108 (3 : Int32).toNatClampNeg z106))), (a6, .inl (cB29, 5, .inl f30))] H := hP
                have hD : va_D A [(a5, .inl (cB27, 5, .inl f109)), (a0, .inr (6, [.ref a4, .ref a5, .int z107])), (a1, .inr (4, [.int k8, g9, g10, g11, g12, .int k13, g14, g15, g16, .ref a6, g17, g18, g19, g20, g21, g22, g23, g24])), (a4, .inl (cB25, 5, .inl (upd f108 (3 : Int32).toNatClampNeg z106))), (a6, .inl (cB29, 5, .inl f30))] := hD
                generalize upd f108 (3 : Int32).toNatClampNeg z106 = f117 at hP hD
                refine lv_aload_n hx hb dX8_fill_89 rfl (lv_at hl 1 rfl) ?_
                refine lv_aload_n hx hb dX8_fill_90 rfl (lv_at hl 2 rfl) ?_
                refine lv_iload_n hx hb dX8_fill_91 rfl (lv_at hl 3 rfl) ?_
                refine lv_iconst (v := 1) hx hb dX8_fill_92 (by decide) ?_
                refine lv_iadd hx hb dX8_fill_93 ?_
                refine lv_topi (fun z118 ez118 => ?_)
                obtain rfl : z118 = 4 := ez118.trans (by decide)
                refine lv_iload_n hx hb dX8_fill_94 rfl (lv_at hl 4 rfl) ?_
                refine lv_iload hx hb dX8_fill_95 (lv_at hl 5 rfl) ?_
                refine cl_v (wc := [(a0, .inr (6, [.ref a4, .ref a5, .int z107])), (a1, .inr (4, [.int k8, g9, g10, g11, g12, .int k13, g14, g15, g16, .ref a6, g17, g18, g19, g20, g21, g22, g23, g24])), (a4, .inl (cB25, 5, .inl f117)), (a5, .inl (cB27, 5, .inl f109)), (a6, .inl (cB29, 5, .inl f30))]) (wr := []) (va_runV (As := [.ref a1, .int 4, .int k2, .int k3]) (rest := []) ⟨hx, hb, hml, hown, hts⟩ (kX8_fill_s4 l dC dI a0 a1 k2 k3 a4 a5 a6 z107 k8 (g9) (g10) (g11) (g12) k13 (g14) (g15) (g16) (g17) (g18) (g19) (g20) (g21) (g22) (g23) (g24) cB25 f117 cB27 f109 cB29 f30 (by first | omega | (simp only [ltv_0, ltv_4]; omega)) (by first | omega | (simp only [ltv_0, ltv_4]; omega)) H.size) (cwV 4 hts gX8_fill_s3_2 rfl rfl rfl (by decide +kernel) ⟨Nat.le_of_ble_eq_true rfl, Nat.le_of_ble_eq_true rfl⟩) (PV (hP.sub (ws' := [(a0, .inr (6, [.ref a4, .ref a5, .int z107])), (a1, .inr (4, [.int k8, g9, g10, g11, g12, .int k13, g14, g15, g16, .ref a6, g17, g18, g19, g20, g21, g22, g23, g24])), (a4, .inl (cB25, 5, .inl f117)), (a5, .inl (cB27, 5, .inl f109)), (a6, .inl (cB29, 5, .inl f30))]) [1, 2, 3, 0, 4] rfl) (hK.sub (tys' := [(cB25, .int), (cB27, .int), (cB29, .int)]) [0, 1, 2] rfl) (hD.sub (ws' := [(a0, .inr (6, [.ref a4, .ref a5, .int z107])), (a1, .inr (4, [.int k8, g9, g10, g11, g12, .int k13, g14, g15, g16, .ref a6, g17, g18, g19, g20, g21, g22, g23, g24])), (a4, .inl (cB25, 5, .inl f117)), (a5, .inl (cB27, 5, .inl f109)), (a6, .inl (cB29, 5, .inl f30))]) [1, 2, 3, 0, 4] (by decide) rfl) hN 0 rfl rfl) rfl rfl hl.1 rfl (lv_room (Nat.le_of_ble_eq_true rfl)) dX8_fill_97 ⟨Nat.le_of_ble_eq_true rfl, Nat.le_of_ble_eq_true rfl⟩) hP hD hK hS hA [1, 2, 3, 0, 4] [] rfl rfl (by decide) (by decide) (fun u H locs hw hP hD hK hS => ?_)
                obtain ⟨z119, f120, f121⟩ := u
                have b122 := hw
                have hP : va_P (dC, dI) vwCl [(a0, .inr (6, [.ref a4, .ref a5, .int z119])), (a1, .inr (4, [.int k8, g9, g10, g11, g12, .int k13, g14, g15, g16, .ref a6, g17, g18, g19, g20, g21, g22, g23, g24])), (a4, .inl (cB25, 5, .inl f120)), (a5, .inl (cB27, 5, .inl f121)), (a6, .inl (cB29, 5, .inl f30))] H := hP
                have hD : va_D A [(a0, .inr (6, [.ref a4, .ref a5, .int z119])), (a1, .inr (4, [.int k8, g9, g10, g11, g12, .int k13, g14, g15, g16, .ref a6, g17, g18, g19, g20, g21, g22, g23, g24])), (a4, .inl (cB25, 5, .inl f120)), (a5, .inl (cB27, 5, .inl f121)), (a6, .inl (cB29, 5, .inl f30))] := hD
                have hK : va_K (dC, dI) vwCl [(cB25, .int), (cB27, .int), (cB29, .int)] s := hK
                obtain ⟨z123, ez123⟩ : ∃ y : Int32, y = z106 + 1 := ⟨_, rfl⟩
                have tz123 : z123.toInt = z106.toInt + 1 := by rw [ez123, iadd_t (by simp only [ltv_1]; omega) (by simp only [ltv_1]; omega)]; simp only [ltv_1]
                refine lv_iinc (v := z123) (lv' := [(5, .int z123), (0, .ref a0), (1, .ref a1), (2, .int 3), (3, .int k2), (4, .int k3)]) hx hb dX8_fill_100 hl (k := 0) rfl (by rw [ez123]; rfl) (by decide) rfl (fun ls hl => ?_)
                refine lv_goto (tgt := 52) hx hb dX8_fill_103 (by decide) ?_
                exact ih52 z123 z119 f120 f121 H locs ls (by first | omega | (simp only [ltv_0, ltv_3]; omega)) (by first | omega | (simp only [ltv_0, ltv_3]; omega)) hP hD hS (lv_sub hl [0, 1, 2, 3, 4, 5] rfl)
      exact L52_110 9 (0) k7 f26 f28 s.heap _ ls (by first | omega | (simp only [ltv_0, ltv_3]; omega)) (by first | omega | (simp only [ltv_0, ltv_3]; omega)) hP hD hS (lv_sub hl [0, 1, 2, 3, 4, 5] rfl)
    · simp only [fa_lt, fa_le, fa_eq, ltv_0] at c8
      refine lv_aload_n hx hb dX8_fill_30 rfl (lv_at hl 0 rfl) ?_
      refine va_get (D := (dC, dI)) (ci := 6) (v := .ref a4) (C := RX8) (T := TX8) (N := 3) hx hb hts iX8_fill_s3_X8 hown hK hP 0 rfl rfl 0 (by decide) (hts (.fieldLink RX8 9 "HookPier$Seats" "row" "[I") (List.mem_of_getElem? (i := 8) rfl)) (fun _ h9 => h9) rfl dX8_fill_31 ?_
      refine lv_iload_n hx hb dX8_fill_34 rfl (lv_at hl 2 rfl) ?_
      refine lv_iconst (v := (-1)) hx hb dX8_fill_35 (by decide) ?_
      refine va_iast hx hb hK hP hD hS 2 0 rfl rfl (by unfold vp_in; decide) dX8_fill_36 (fun H locs hP hD hS => ?_)
      have hP : va_P (dC, dI) vwCl [(a0, .inr (6, [.ref a4, .ref a5, .int k7])), (a1, .inr (4, [.int k8, g9, g10, g11, g12, .int k13, g14, g15, g16, .ref a6, g17, g18, g19, g20, g21, g22, g23, g24])), (a4, .inl (cB25, 5, .inl (upd f26 (3 : Int32).toNatClampNeg (-1)))), (a5, .inl (cB27, 5, .inl f28)), (a6, .inl (cB29, 5, .inl f30))] H := hP
      have hD : va_D A [(a0, .inr (6, [.ref a4, .ref a5, .int k7])), (a1, .inr (4, [.int k8, g9, g10, g11, g12, .int k13, g14, g15, g16, .ref a6, g17, g18, g19, g20, g21, g22, g23, g24])), (a4, .inl (cB25, 5, .inl (upd f26 (3 : Int32).toNatClampNeg (-1)))), (a5, .inl (cB27, 5, .inl f28)), (a6, .inl (cB29, 5, .inl f30))] := hD
      generalize upd f26 (3 : Int32).toNatClampNeg (-1) = f124 at hP hD
      refine lv_aload_n hx hb dX8_fill_37 rfl (lv_at hl 0 rfl) ?_
      refine lv_aload_n hx hb dX8_fill_38 rfl (lv_at hl 1 rfl) ?_
      refine lv_iload_n hx hb dX8_fill_39 rfl (lv_at hl 2 rfl) ?_
      refine lv_iconst (v := 1) hx hb dX8_fill_40 (by decide) ?_
      refine lv_iadd hx hb dX8_fill_41 ?_
      refine lv_topi (fun z125 ez125 => ?_)
      obtain rfl : z125 = 4 := ez125.trans (by decide)
      refine lv_iload_n hx hb dX8_fill_42 rfl (lv_at hl 3 rfl) ?_
      refine lv_iload hx hb dX8_fill_43 (lv_at hl 4 rfl) ?_
      refine cl_v (wc := [(a0, .inr (6, [.ref a4, .ref a5, .int k7])), (a1, .inr (4, [.int k8, g9, g10, g11, g12, .int k13, g14, g15, g16, .ref a6, g17, g18, g19, g20, g21, g22, g23, g24])), (a4, .inl (cB25, 5, .inl f124)), (a5, .inl (cB27, 5, .inl f28)), (a6, .inl (cB29, 5, .inl f30))]) (wr := []) (va_runV (As := [.ref a1, .int 4, .int k2, .int k3]) (rest := []) ⟨hx, hb, hml, hown, hts⟩ (kX8_fill_s4 l dC dI a0 a1 k2 k3 a4 a5 a6 k7 k8 (g9) (g10) (g11) (g12) k13 (g14) (g15) (g16) (g17) (g18) (g19) (g20) (g21) (g22) (g23) (g24) cB25 f124 cB27 f28 cB29 f30 (by first | omega | (simp only [ltv_0, ltv_4]; omega)) (by first | omega | (simp only [ltv_0, ltv_4]; omega)) H.size) (cwV 4 hts gX8_fill_s3_2 rfl rfl rfl (by decide +kernel) ⟨Nat.le_of_ble_eq_true rfl, Nat.le_of_ble_eq_true rfl⟩) (PV (hP.sub (ws' := [(a0, .inr (6, [.ref a4, .ref a5, .int k7])), (a1, .inr (4, [.int k8, g9, g10, g11, g12, .int k13, g14, g15, g16, .ref a6, g17, g18, g19, g20, g21, g22, g23, g24])), (a4, .inl (cB25, 5, .inl f124)), (a5, .inl (cB27, 5, .inl f28)), (a6, .inl (cB29, 5, .inl f30))]) [0, 1, 2, 3, 4] rfl) (hK.sub (tys' := [(cB25, .int), (cB27, .int), (cB29, .int)]) [0, 1, 2] rfl) (hD.sub (ws' := [(a0, .inr (6, [.ref a4, .ref a5, .int k7])), (a1, .inr (4, [.int k8, g9, g10, g11, g12, .int k13, g14, g15, g16, .ref a6, g17, g18, g19, g20, g21, g22, g23, g24])), (a4, .inl (cB25, 5, .inl f124)), (a5, .inl (cB27, 5, .inl f28)), (a6, .inl (cB29, 5, .inl f30))]) [0, 1, 2, 3, 4] (by decide) rfl) hN 0 rfl rfl) rfl rfl hl.1 rfl (lv_room (Nat.le_of_ble_eq_true rfl)) dX8_fill_45 ⟨Nat.le_of_ble_eq_true rfl, Nat.le_of_ble_eq_true rfl⟩) hP hD hK hS hA [0, 1, 2, 3, 4] [] rfl rfl (by decide) (by decide) (fun u H locs hw hP hD hK hS => ?_)
      obtain ⟨z126, f127, f128⟩ := u
      have b129 := hw
      have hP : va_P (dC, dI) vwCl [(a0, .inr (6, [.ref a4, .ref a5, .int z126])), (a1, .inr (4, [.int k8, g9, g10, g11, g12, .int k13, g14, g15, g16, .ref a6, g17, g18, g19, g20, g21, g22, g23, g24])), (a4, .inl (cB25, 5, .inl f127)), (a5, .inl (cB27, 5, .inl f128)), (a6, .inl (cB29, 5, .inl f30))] H := hP
      have hD : va_D A [(a0, .inr (6, [.ref a4, .ref a5, .int z126])), (a1, .inr (4, [.int k8, g9, g10, g11, g12, .int k13, g14, g15, g16, .ref a6, g17, g18, g19, g20, g21, g22, g23, g24])), (a4, .inl (cB25, 5, .inl f127)), (a5, .inl (cB27, 5, .inl f128)), (a6, .inl (cB29, 5, .inl f30))] := hD
      have hK : va_K (dC, dI) vwCl [(cB25, .int), (cB27, .int), (cB29, .int)] s := hK
      have hP9 := hP.sub (ws' := [(a0, .inr (6, [.ref a4, .ref a5, .int z126])), (a1, .inr (4, [.int k8, g9, g10, g11, g12, .int k13, g14, g15, g16, .ref a6, g17, g18, g19, g20, g21, g22, g23, g24])), (a4, .inl (cB25, 5, .inl f127)), (a5, .inl (cB27, 5, .inl f128)), (a6, .inl (cB29, 5, .inl f30))]) [0, 1, 2, 3, 4] rfl
      have hD9 := hD.sub (ws' := [(a0, .inr (6, [.ref a4, .ref a5, .int z126])), (a1, .inr (4, [.int k8, g9, g10, g11, g12, .int k13, g14, g15, g16, .ref a6, g17, g18, g19, g20, g21, g22, g23, g24])), (a4, .inl (cB25, 5, .inl f127)), (a5, .inl (cB27, 5, .inl f128)), (a6, .inl (cB29, 5, .inl f30))]) [0, 1, 2, 3, 4] (by decide) rfl
      have hK9 := hK.sub (tys' := []) [] rfl
      exact W.vret hx hb hr (fun t ht hW => ⟨⟨(z126, f127, f128), rfl, trivial, by rw [ht]; exact hP9, va_K.moved hW.alike hK9, hD9⟩, hS.F ht⟩) hS.2.2 dX8_fill_48
def vX8_fill_s2 : List Cond := .code yX8_fill cX8_fill 6 none :: ([.fieldLink RX8 26 "HookPier$Plan" "askers" "I", .methodLink RX8 31 yX8_keepRow, .instanceMethod yX8_keepRow, .selects RX8 yX8_keepRow yX8_keepRow, .initialized RX8, .code yX8_keepRow cX8_keepRow 1 none, .fieldLink RX8 18 "HookPier$Seats" "found" "I", .fieldLink RX8 9 "HookPier$Seats" "row" "[I", .fieldLink RX8 15 "HookPier$Seats" "first" "[I", .methodLink RX8 41 arraycopyName, .native arraycopyName, .static arraycopyName, .initialized "java/lang/System", .fieldLink RX8 34 "HookPier$Plan" "spots" "I", .methodLink RX8 37 yX8_isFree, .instanceMethod yX8_isFree, .selects RX8 yX8_isFree yX8_isFree, .code yX8_isFree cX8_isFree 5 (some .boolean), .methodLink RX8 47 yX6_isTangle, .instanceMethod yX6_isTangle, .selects RX6 yX6_isTangle yX6_isTangle, .initialized RX6, .code yX6_isTangle cX6_isTangle 5 (some .boolean), .methodLink RX6 89 Lib.Math.abs.name, .static Lib.Math.abs.name, .initialized "java/lang/Math", .code Lib.Math.abs.name Lib.Math.abs.code 1 (some .int), .fieldLink RX6 39 "HookPier$Plan" "reach" "[I", .methodLink RX8 22 yX8_fill, .instanceMethod yX8_fill, .selects RX8 yX8_fill yX8_fill, .code yX8_fill cX8_fill 6 none] ++ wsX60 ++ wsX80)
theorem iX8_fill_s2_X6 : ∀ w ∈ wsX60, w ∈ vX8_fill_s2 := fun _ h => List.mem_cons_of_mem _ (List.mem_append_left _ (List.mem_append_right _ h))
theorem iX8_fill_s2_X8 : ∀ w ∈ wsX80, w ∈ vX8_fill_s2 := fun _ h => List.mem_cons_of_mem _ (List.mem_append_right _ h)
set_option maxRecDepth 20000 in
theorem gX8_fill_s2_0 : GoodIn vX8_fill_s2 (wsV RX8 31 RX8 yX8_keepRow vX8_keepRow) := goodIn_app (goodIn_r [.methodLink RX8 31 yX8_keepRow, .instanceMethod yX8_keepRow, .selects RX8 yX8_keepRow yX8_keepRow, .initialized RX8] [2, 3, 4, 5] (by decide +kernel) (by decide +kernel)) (goodIn_ca (goodIn_r (.code yX8_keepRow cX8_keepRow 1 none :: [.fieldLink RX8 18 "HookPier$Seats" "found" "I", .fieldLink RX8 9 "HookPier$Seats" "row" "[I", .fieldLink RX8 15 "HookPier$Seats" "first" "[I", .methodLink RX8 41 arraycopyName, .native arraycopyName, .static arraycopyName, .initialized "java/lang/System"]) [6, 7, 8, 9, 10, 11, 12, 13] (by decide +kernel) (by decide +kernel) : GoodIn vX8_fill_s2 (.code yX8_keepRow cX8_keepRow 1 none :: [.fieldLink RX8 18 "HookPier$Seats" "found" "I", .fieldLink RX8 9 "HookPier$Seats" "row" "[I", .fieldLink RX8 15 "HookPier$Seats" "first" "[I", .methodLink RX8 41 arraycopyName, .native arraycopyName, .static arraycopyName, .initialized "java/lang/System"])) (goodIn_sub iX8_fill_s2_X8 (by decide +kernel)))
set_option maxRecDepth 20000 in
theorem gX8_fill_s2_1 : GoodIn vX8_fill_s2 (wsV RX8 37 RX8 yX8_isFree vX8_isFree) := goodIn_app (goodIn_r [.methodLink RX8 37 yX8_isFree, .instanceMethod yX8_isFree, .selects RX8 yX8_isFree yX8_isFree, .initialized RX8] [15, 16, 17, 5] (by decide +kernel) (by decide +kernel)) (goodIn_ca (goodIn_ca (goodIn_r (.code yX8_isFree cX8_isFree 5 (some .boolean) :: [.fieldLink RX8 9 "HookPier$Seats" "row" "[I", .methodLink RX8 47 yX6_isTangle, .instanceMethod yX6_isTangle, .selects RX6 yX6_isTangle yX6_isTangle, .initialized RX6, .code yX6_isTangle cX6_isTangle 5 (some .boolean), .methodLink RX6 89 Lib.Math.abs.name, .static Lib.Math.abs.name, .initialized "java/lang/Math", .code Lib.Math.abs.name Lib.Math.abs.code 1 (some .int), .fieldLink RX6 39 "HookPier$Plan" "reach" "[I"]) [18, 8, 19, 20, 21, 22, 23, 24, 25, 26, 27, 28] (by decide +kernel) (by decide +kernel) : GoodIn vX8_fill_s2 (.code yX8_isFree cX8_isFree 5 (some .boolean) :: [.fieldLink RX8 9 "HookPier$Seats" "row" "[I", .methodLink RX8 47 yX6_isTangle, .instanceMethod yX6_isTangle, .selects RX6 yX6_isTangle yX6_isTangle, .initialized RX6, .code yX6_isTangle cX6_isTangle 5 (some .boolean), .methodLink RX6 89 Lib.Math.abs.name, .static Lib.Math.abs.name, .initialized "java/lang/Math", .code Lib.Math.abs.name Lib.Math.abs.code 1 (some .int), .fieldLink RX6 39 "HookPier$Plan" "reach" "[I"])) (goodIn_sub iX8_fill_s2_X8 (by decide +kernel))) (goodIn_sub iX8_fill_s2_X6 (by decide +kernel)))
set_option maxRecDepth 20000 in
theorem gX8_fill_s2_2 : GoodIn vX8_fill_s2 (wsV RX8 22 RX8 yX8_fill vX8_fill_s3) := goodIn_app (goodIn_r [.methodLink RX8 22 yX8_fill, .instanceMethod yX8_fill, .selects RX8 yX8_fill yX8_fill, .initialized RX8] [29, 30, 31, 5] (by decide +kernel) (by decide +kernel)) (goodIn_ca (goodIn_ca (goodIn_r (.code yX8_fill cX8_fill 6 none :: [.fieldLink RX8 26 "HookPier$Plan" "askers" "I", .methodLink RX8 31 yX8_keepRow, .instanceMethod yX8_keepRow, .selects RX8 yX8_keepRow yX8_keepRow, .initialized RX8, .code yX8_keepRow cX8_keepRow 1 none, .fieldLink RX8 18 "HookPier$Seats" "found" "I", .fieldLink RX8 9 "HookPier$Seats" "row" "[I", .fieldLink RX8 15 "HookPier$Seats" "first" "[I", .methodLink RX8 41 arraycopyName, .native arraycopyName, .static arraycopyName, .initialized "java/lang/System", .fieldLink RX8 34 "HookPier$Plan" "spots" "I", .methodLink RX8 37 yX8_isFree, .instanceMethod yX8_isFree, .selects RX8 yX8_isFree yX8_isFree, .code yX8_isFree cX8_isFree 5 (some .boolean), .methodLink RX8 47 yX6_isTangle, .instanceMethod yX6_isTangle, .selects RX6 yX6_isTangle yX6_isTangle, .initialized RX6, .code yX6_isTangle cX6_isTangle 5 (some .boolean), .methodLink RX6 89 Lib.Math.abs.name, .static Lib.Math.abs.name, .initialized "java/lang/Math", .code Lib.Math.abs.name Lib.Math.abs.code 1 (some .int), .fieldLink RX6 39 "HookPier$Plan" "reach" "[I", .methodLink RX8 22 yX8_fill, .instanceMethod yX8_fill, .selects RX8 yX8_fill yX8_fill, .code yX8_fill cX8_fill 6 none]) [0, 1, 2, 3, 4, 5, 6, 7, 8, 9, 10, 11, 12, 13, 14, 15, 16, 17, 18, 19, 20, 21, 22, 23, 24, 25, 26, 27, 28, 29, 30, 31, 0] (by decide +kernel) (by decide +kernel) : GoodIn vX8_fill_s2 (.code yX8_fill cX8_fill 6 none :: [.fieldLink RX8 26 "HookPier$Plan" "askers" "I", .methodLink RX8 31 yX8_keepRow, .instanceMethod yX8_keepRow, .selects RX8 yX8_keepRow yX8_keepRow, .initialized RX8, .code yX8_keepRow cX8_keepRow 1 none, .fieldLink RX8 18 "HookPier$Seats" "found" "I", .fieldLink RX8 9 "HookPier$Seats" "row" "[I", .fieldLink RX8 15 "HookPier$Seats" "first" "[I", .methodLink RX8 41 arraycopyName, .native arraycopyName, .static arraycopyName, .initialized "java/lang/System", .fieldLink RX8 34 "HookPier$Plan" "spots" "I", .methodLink RX8 37 yX8_isFree, .instanceMethod yX8_isFree, .selects RX8 yX8_isFree yX8_isFree, .code yX8_isFree cX8_isFree 5 (some .boolean), .methodLink RX8 47 yX6_isTangle, .instanceMethod yX6_isTangle, .selects RX6 yX6_isTangle yX6_isTangle, .initialized RX6, .code yX6_isTangle cX6_isTangle 5 (some .boolean), .methodLink RX6 89 Lib.Math.abs.name, .static Lib.Math.abs.name, .initialized "java/lang/Math", .code Lib.Math.abs.name Lib.Math.abs.code 1 (some .int), .fieldLink RX6 39 "HookPier$Plan" "reach" "[I", .methodLink RX8 22 yX8_fill, .instanceMethod yX8_fill, .selects RX8 yX8_fill yX8_fill, .code yX8_fill cX8_fill 6 none])) (goodIn_sub iX8_fill_s2_X6 (by decide +kernel))) (goodIn_sub iX8_fill_s2_X8 (by decide +kernel)))
set_option maxHeartbeats 2000000 in
set_option maxRecDepth 100000 in
theorem kX8_fill_s2 (l : Launch) (dC : Nat → ClassId) (dI : Nat → Nat → Nat) (a0 : Nat) (a1 : Nat) (k2 : Int32) (k3 : Int32) (a4 : Nat) (a5 : Nat) (a6 : Nat) (k7 : Int32) (k8 : Int32) (g9 : Value) (g10 : Value) (g11 : Value) (g12 : Value) (k13 : Int32) (g14 : Value) (g15 : Value) (g16 : Value) (g17 : Value) (g18 : Value) (g19 : Value) (g20 : Value) (g21 : Value) (g22 : Value) (g23 : Value) (g24 : Value) (cB25 : ClassId) (f26 : Nat → Int32) (cB27 : ClassId) (f28 : Nat → Int32) (cB29 : ClassId) (f30 : Nat → Int32) (hk8 : (0 ≤ k8.toInt ∧ k8.toInt ≤ 8)) (hk13 : (0 ≤ k13.toInt ∧ k13.toInt ≤ 5)) (sz : Nat) : Met l yX8_fill vX8_fill_s2 ({ frames := 5, cells := 0, slots := 0, locals := 135 }) (PC (dC, dI) [.ref a0, .ref a1, .int 2, .int k2, .int k3] sz [(a0, .inr (6, [.ref a4, .ref a5, .int k7])), (a1, .inr (4, [.int k8, g9, g10, g11, g12, .int k13, g14, g15, g16, .ref a6, g17, g18, g19, g20, g21, g22, g23, g24])), (a4, .inl (cB25, 5, .inl f26)), (a5, .inl (cB27, 5, .inl f28)), (a6, .inl (cB29, 5, .inl f30))] [(cB25, .int), (cB27, .int), (cB29, .int)]) (va_Qv (S := Int32 × (Nat → Int32) × (Nat → Int32)) (fun u => True) (fun u t => BC (dC, dI) (va_A [(a0, .inr (6, [.ref a4, .ref a5, .int k7])), (a1, .inr (4, [.int k8, g9, g10, g11, g12, .int k13, g14, g15, g16, .ref a6, g17, g18, g19, g20, g21, g22, g23, g24])), (a4, .inl (cB25, 5, .inl f26)), (a5, .inl (cB27, 5, .inl f28)), (a6, .inl (cB29, 5, .inl f30))] sz) [(a0, .inr (6, [.ref a4, .ref a5, .int (u.1)])), (a1, .inr (4, [.int k8, g9, g10, g11, g12, .int k13, g14, g15, g16, .ref a6, g17, g18, g19, g20, g21, g22, g23, g24])), (a4, .inl (cB25, 5, .inl (u.2.1))), (a5, .inl (cB27, 5, .inl (u.2.2))), (a6, .inl (cB29, 5, .inl f30))] [] t) (va_A [(a0, .inr (6, [.ref a4, .ref a5, .int k7])), (a1, .inr (4, [.int k8, g9, g10, g11, g12, .int k13, g14, g15, g16, .ref a6, g17, g18, g19, g20, g21, g22, g23, g24])), (a4, .inl (cB25, 5, .inl f26)), (a5, .inl (cB27, 5, .inl f28)), (a6, .inl (cB29, 5, .inl f30))] sz)) 0 0 (va_A [(a0, .inr (6, [.ref a4, .ref a5, .int k7])), (a1, .inr (4, [.int k8, g9, g10, g11, g12, .int k13, g14, g15, g16, .ref a6, g17, g18, g19, g20, g21, g22, g23, g24])), (a4, .inl (cB25, 5, .inl f26)), (a5, .inl (cB27, 5, .inl f28)), (a6, .inl (cB29, 5, .inl f30))] sz) := by
  refine Met.ofW (cc := cX8_fill) (maxL := 6) (ret := none) (by decide) rfl ?_
  intro p e s m args below meth c s₁ B hml hv
  obtain ⟨rfl, hsz, hP, hK, hD0, hN⟩ := hv
  have hx := B.exec
  have hb := B.bytes
  have hr := B.returns
  have hts := atoms_spec (ws := vX8_fill_s2) B.pre
  have hown : s.vm.findClass RX8 = some m.cls := findClass_of_methodNamed B.named
  have hlocks := B.notSynchronized
  subst hsz
  have hD := hD0.self (sz := s.heap.size)
  generalize hAe : va_A [(a0, .inr (6, [.ref a4, .ref a5, .int k7])), (a1, .inr (4, [.int k8, g9, g10, g11, g12, .int k13, g14, g15, g16, .ref a6, g17, g18, g19, g20, g21, g22, g23, g24])), (a4, .inl (cB25, 5, .inl f26)), (a5, .inl (cB27, 5, .inl f28)), (a6, .inl (cB29, 5, .inl f30))] s.heap.size = A at hD ⊢
  have hA : ∀ q : Nat, s.heap.size ≤ q → A q := fun q h => by rw [← hAe]; exact Or.inr h
  have hS : va_S A s.heap s.heap [] := va_S.rf
  have hP : va_P (dC, dI) vwCl [(a0, .inr (6, [.ref a4, .ref a5, .int k7])), (a1, .inr (4, [.int k8, g9, g10, g11, g12, .int k13, g14, g15, g16, .ref a6, g17, g18, g19, g20, g21, g22, g23, g24])), (a4, .inl (cB25, 5, .inl f26)), (a5, .inl (cB27, 5, .inl f28)), (a6, .inl (cB29, 5, .inl f30))] s.heap := hP
  have hl := lv_entry ([.ref a0, .ref a1, .int 2, .int k2, .int k3]) (n := 6) (Nat.le_of_ble_eq_true rfl)
  rw [lg_entry_eq]
  generalize (lg_sl ([.ref a0, .ref a1, .int 2, .int k2, .int k3]) ++ List.replicate (6 - (lg_sl ([.ref a0, .ref a1, .int 2, .int k2, .int k3])).length) Slot.unset).toArray = ls at hl ⊢
  have hl : lv_has ls 6 [(0, .ref a0), (1, .ref a1), (2, .int 2), (3, .int k2), (4, .int k3)] := hl
  refine lv_iload_n hx hb dX8_fill_0 rfl (lv_at hl 2 rfl) ?_
  refine lv_aload_n hx hb dX8_fill_1 rfl (lv_at hl 1 rfl) ?_
  refine va_get (D := (dC, dI)) (ci := 4) (v := .int k13) (C := RX6) (T := TX6) (N := 18) hx hb hts iX8_fill_s2_X6 hown hK hP 1 rfl rfl 5 (by decide) (hts (.fieldLink RX8 26 "HookPier$Plan" "askers" "I") (List.mem_of_getElem? (i := 1) rfl)) (fun _ h9 => h9) rfl dX8_fill_2 ?_
  refine lv_icmp_ge (tgt := 17) hx hb dX8_fill_5 (by decide) (fun c1 => ?_) (fun c1 => ?_)
  · simp only [fa_lt, fa_le, fa_eq, ltv_0, ltv_2] at c1
    refine lv_aload_n hx hb dX8_fill_17 rfl (lv_at hl 0 rfl) ?_
    refine cl_v (wc := [(a0, .inr (6, [.ref a4, .ref a5, .int k7])), (a4, .inl (cB25, 5, .inl f26)), (a5, .inl (cB27, 5, .inl f28))]) (wr := [(a1, .inr (4, [.int k8, g9, g10, g11, g12, .int k13, g14, g15, g16, .ref a6, g17, g18, g19, g20, g21, g22, g23, g24])), (a6, .inl (cB29, 5, .inl f30))]) (va_runV (As := []) (rest := []) ⟨hx, hb, hml, hown, hts⟩ (kX8_keepRow l dC dI a0 a4 a5 k7 cB25 f26 cB27 f28  s.heap.size) (cwV 0 hts gX8_fill_s2_0 rfl rfl rfl (by decide +kernel) ⟨Nat.le_of_ble_eq_true rfl, Nat.le_of_ble_eq_true rfl⟩) (PV (hP.sub (ws' := [(a0, .inr (6, [.ref a4, .ref a5, .int k7])), (a4, .inl (cB25, 5, .inl f26)), (a5, .inl (cB27, 5, .inl f28))]) [0, 2, 3] rfl) (hK.sub (tys' := [(cB25, .int), (cB27, .int)]) [0, 1] rfl) (hD.sub (ws' := [(a0, .inr (6, [.ref a4, .ref a5, .int k7])), (a4, .inl (cB25, 5, .inl f26)), (a5, .inl (cB27, 5, .inl f28))]) [0, 2, 3] (by decide) rfl) hN 0 rfl rfl) rfl rfl hl.1 rfl (lv_room (Nat.le_of_ble_eq_true rfl)) dX8_fill_18 ⟨Nat.le_of_ble_eq_true rfl, Nat.le_of_ble_eq_true rfl⟩) hP hD hK hS hA [0, 2, 3] [1, 4] rfl rfl (by decide) (by decide) (fun u H locs hw hP hD hK hS => ?_)
    obtain ⟨z2, f3⟩ := u
    have b4 := hw
    have hP : va_P (dC, dI) vwCl [(a1, .inr (4, [.int k8, g9, g10, g11, g12, .int k13, g14, g15, g16, .ref a6, g17, g18, g19, g20, g21, g22, g23, g24])), (a6, .inl (cB29, 5, .inl f30)), (a0, .inr (6, [.ref a4, .ref a5, .int z2])), (a4, .inl (cB25, 5, .inl f26)), (a5, .inl (cB27, 5, .inl f3))] H := hP
    have hD : va_D A [(a1, .inr (4, [.int k8, g9, g10, g11, g12, .int k13, g14, g15, g16, .ref a6, g17, g18, g19, g20, g21, g22, g23, g24])), (a6, .inl (cB29, 5, .inl f30)), (a0, .inr (6, [.ref a4, .ref a5, .int z2])), (a4, .inl (cB25, 5, .inl f26)), (a5, .inl (cB27, 5, .inl f3))] := hD
    have hK : va_K (dC, dI) vwCl [(cB25, .int), (cB27, .int), (cB29, .int)] s := hK
    have hP9 := hP.sub (ws' := [(a0, .inr (6, [.ref a4, .ref a5, .int z2])), (a1, .inr (4, [.int k8, g9, g10, g11, g12, .int k13, g14, g15, g16, .ref a6, g17, g18, g19, g20, g21, g22, g23, g24])), (a4, .inl (cB25, 5, .inl f26)), (a5, .inl (cB27, 5, .inl f3)), (a6, .inl (cB29, 5, .inl f30))]) [2, 0, 3, 4, 1] rfl
    have hD9 := hD.sub (ws' := [(a0, .inr (6, [.ref a4, .ref a5, .int z2])), (a1, .inr (4, [.int k8, g9, g10, g11, g12, .int k13, g14, g15, g16, .ref a6, g17, g18, g19, g20, g21, g22, g23, g24])), (a4, .inl (cB25, 5, .inl f26)), (a5, .inl (cB27, 5, .inl f3)), (a6, .inl (cB29, 5, .inl f30))]) [2, 0, 3, 4, 1] (by decide) rfl
    have hK9 := hK.sub (tys' := []) [] rfl
    exact W.vret hx hb hr (fun t ht hW => ⟨⟨(z2, f26, f3), rfl, trivial, by rw [ht]; exact hP9, va_K.moved hW.alike hK9, hD9⟩, hS.F ht⟩) hS.2.2 dX8_fill_21
  · simp only [fa_lt, fa_le, fa_eq, ltv_0, ltv_2] at c1
    refine lv_iload_n hx hb dX8_fill_8 rfl (lv_at hl 2 rfl) ?_
    refine lv_aload_n hx hb dX8_fill_9 rfl (lv_at hl 0 rfl) ?_
    refine va_get (D := (dC, dI)) (ci := 6) (v := .ref a4) (C := RX8) (T := TX8) (N := 3) hx hb hts iX8_fill_s2_X8 hown hK hP 0 rfl rfl 0 (by decide) (hts (.fieldLink RX8 9 "HookPier$Seats" "row" "[I") (List.mem_of_getElem? (i := 8) rfl)) (fun _ h9 => h9) rfl dX8_fill_10 ?_
    refine va_alen (v := 5) hx hb hK hP 2 0 rfl rfl rfl dX8_fill_13 ?_
    refine lv_icmp_lt (tgt := 22) hx hb dX8_fill_14 (by decide) (fun _ => ?_) (fun c5 => absurd c5 (by decide))
    refine lv_iload_n hx hb dX8_fill_22 rfl (lv_at hl 3 rfl) ?_
    refine lv_iload_n hx hb dX8_fill_23 rfl (lv_at hl 2 rfl) ?_
    refine lv_ishr hx hb dX8_fill_24 ?_
    refine lv_topi (fun z6 ez6 => ?_)
    clear ez6
    refine lv_iconst (v := 1) hx hb dX8_fill_25 (by decide) ?_
    refine lv_iand hx hb dX8_fill_26 ?_
    refine lv_topi (fun z7 ez7 => ?_)
    clear ez7
    refine lv_if_ne (tgt := 49) hx hb dX8_fill_27 (by decide) (fun c8 => ?_) (fun c8 => ?_)
    · simp only [fa_lt, fa_le, fa_eq, ltv_0] at c8
      refine lv_iconst (v := 0) hx hb dX8_fill_49 (by decide) ?_
      refine lv_istore (lv' := [(5, .int 0), (0, .ref a0), (1, .ref a1), (2, .int 2), (3, .int k2), (4, .int k3)]) hx hb dX8_fill_50 hl (by decide) rfl (fun ls hl => ?_)
      have L52_110 : ∀ (n : Nat) (z106 : Int32) (z107 : Int32) (f108 : Nat → Int32) (f109 : Nat → Int32) (H : Heap) (locs : List Loc) (ls : Array Slot), (0 ≤ z106.toInt ∧ z106.toInt ≤ 8) → 8 - z106.toInt < (n : Int) → va_P (dC, dI) vwCl [(a0, .inr (6, [.ref a4, .ref a5, .int z107])), (a1, .inr (4, [.int k8, g9, g10, g11, g12, .int k13, g14, g15, g16, .ref a6, g17, g18, g19, g20, g21, g22, g23, g24])), (a4, .inl (cB25, 5, .inl f108)), (a5, .inl (cB27, 5, .inl f109)), (a6, .inl (cB29, 5, .inl f30))] H → va_D A [(a0, .inr (6, [.ref a4, .ref a5, .int z107])), (a1, .inr (4, [.int k8, g9, g10, g11, g12, .int k13, g14, g15, g16, .ref a6, g17, g18, g19, g20, g21, g22, g23, g24])), (a4, .inl (cB25, 5, .inl f108)), (a5, .inl (cB27, 5, .inl f109)), (a6, .inl (cB29, 5, .inl f30))] → va_S A s.heap H locs → lv_has ls 6 [(5, .int z106), (0, .ref a0), (1, .ref a1), (2, .int 2), (3, .int k2), (4, .int k3)] → W p l e (headSpec vX8_fill_s2 { frames := 5, cells := 0, slots := 0, locals := 135 }).room s m ([.ref a0, .ref a1, .int 2, .int k2, .int k3]).toArray below meth c H locs 0 0 (MQ below (va_Qv (S := Int32 × (Nat → Int32) × (Nat → Int32)) (fun u => True) (fun u t => BC (dC, dI) A [(a0, .inr (6, [.ref a4, .ref a5, .int (u.1)])), (a1, .inr (4, [.int k8, g9, g10, g11, g12, .int k13, g14, g15, g16, .ref a6, g17, g18, g19, g20, g21, g22, g23, g24])), (a4, .inl (cB25, 5, .inl (u.2.1))), (a5, .inl (cB27, 5, .inl (u.2.2))), (a6, .inl (cB29, 5, .inl f30))] [] t) A) ([.ref a0, .ref a1, .int 2, .int k2, .int k3]).toArray s 0 0 A) (F0 m 52 ls []) := by
        intro n
        induction n with
        | zero =>
          intro z106 z107 f108 f109 H locs ls b52_0 hm _ _ _ _
          exact absurd hm (by omega)
        | succ n ih52 =>
          intro z106 z107 f108 f109 H locs ls b52_0 hm52 hP hD hS hl
          refine lv_iload hx hb dX8_fill_52 (lv_at hl 0 rfl) ?_
          refine lv_aload_n hx hb dX8_fill_54 rfl (lv_at hl 2 rfl) ?_
          refine va_get (D := (dC, dI)) (ci := 4) (v := .int k8) (C := RX6) (T := TX6) (N := 18) hx hb hts iX8_fill_s2_X6 hown hK hP 1 rfl rfl 0 (by decide) (hts (.fieldLink RX8 34 "HookPier$Plan" "spots" "I") (List.mem_of_getElem? (i := 14) rfl)) (fun _ h9 => h9) rfl dX8_fill_55 ?_
          refine lv_icmp_ge (tgt := 106) hx hb dX8_fill_58 (by decide) (fun c111 => ?_) (fun c111 => ?_)
          · simp only [fa_lt, fa_le, fa_eq, ltv_0] at c111
            have hP9 := hP.sub (ws' := [(a0, .inr (6, [.ref a4, .ref a5, .int z107])), (a1, .inr (4, [.int k8, g9, g10, g11, g12, .int k13, g14, g15, g16, .ref a6, g17, g18, g19, g20, g21, g22, g23, g24])), (a4, .inl (cB25, 5, .inl f108)), (a5, .inl (cB27, 5, .inl f109)), (a6, .inl (cB29, 5, .inl f30))]) [0, 1, 2, 3, 4] rfl
            have hD9 := hD.sub (ws' := [(a0, .inr (6, [.ref a4, .ref a5, .int z107])), (a1, .inr (4, [.int k8, g9, g10, g11, g12, .int k13, g14, g15, g16, .ref a6, g17, g18, g19, g20, g21, g22, g23, g24])), (a4, .inl (cB25, 5, .inl f108)), (a5, .inl (cB27, 5, .inl f109)), (a6, .inl (cB29, 5, .inl f30))]) [0, 1, 2, 3, 4] (by decide) rfl
            have hK9 := hK.sub (tys' := []) [] rfl
            exact W.vret hx hb hr (fun t ht hW => ⟨⟨(z107, f108, f109), rfl, trivial, by rw [ht]; exact hP9, va_K.moved hW.alike hK9, hD9⟩, hS.F ht⟩) hS.2.2 dX8_fill_106
          · simp only [fa_lt, fa_le, fa_eq, ltv_0] at c111
            refine lv_aload_n hx hb dX8_fill_61 rfl (lv_at hl 1 rfl) ?_
            refine va_get (D := (dC, dI)) (ci := 6) (v := .int z107) (C := RX8) (T := TX8) (N := 3) hx hb hts iX8_fill_s2_X8 hown hK hP 0 rfl rfl 2 (by decide) (hts (.fieldLink RX8 18 "HookPier$Seats" "found" "I") (List.mem_of_getElem? (i := 7) rfl)) (fun _ h9 => h9) rfl dX8_fill_62 ?_
            refine lv_iload hx hb dX8_fill_65 (lv_at hl 5 rfl) ?_
            refine lv_icmp_ge (tgt := 106) hx hb dX8_fill_67 (by decide) (fun c112 => ?_) (fun c112 => ?_)
            · simp only [fa_lt, fa_le, fa_eq, ltv_0] at c112
              have hP9 := hP.sub (ws' := [(a0, .inr (6, [.ref a4, .ref a5, .int z107])), (a1, .inr (4, [.int k8, g9, g10, g11, g12, .int k13, g14, g15, g16, .ref a6, g17, g18, g19, g20, g21, g22, g23, g24])), (a4, .inl (cB25, 5, .inl f108)), (a5, .inl (cB27, 5, .inl f109)), (a6, .inl (cB29, 5, .inl f30))]) [0, 1, 2, 3, 4] rfl
              have hD9 := hD.sub (ws' := [(a0, .inr (6, [.ref a4, .ref a5, .int z107])), (a1, .inr (4, [.int k8, g9, g10, g11, g12, .int k13, g14, g15, g16, .ref a6, g17, g18, g19, g20, g21, g22, g23, g24])), (a4, .inl (cB25, 5, .inl f108)), (a5, .inl (cB27, 5, .inl f109)), (a6, .inl (cB29, 5, .inl f30))]) [0, 1, 2, 3, 4] (by decide) rfl
              have hK9 := hK.sub (tys' := []) [] rfl
              exact W.vret hx hb hr (fun t ht hW => ⟨⟨(z107, f108, f109), rfl, trivial, by rw [ht]; exact hP9, va_K.moved hW.alike hK9, hD9⟩, hS.F ht⟩) hS.2.2 dX8_fill_106
            · simp only [fa_lt, fa_le, fa_eq, ltv_0] at c112
              refine lv_aload_n hx hb dX8_fill_70 rfl (lv_at hl 1 rfl) ?_
              refine lv_aload_n hx hb dX8_fill_71 rfl (lv_at hl 2 rfl) ?_
              refine lv_iload_n hx hb dX8_fill_72 rfl (lv_at hl 3 rfl) ?_
              refine lv_iload hx hb dX8_fill_73 (lv_at hl 0 rfl) ?_
              refine cl_i (wc := [(a0, .inr (6, [.ref a4, .ref a5, .int z107])), (a1, .inr (4, [.int k8, g9, g10, g11, g12, .int k13, g14, g15, g16, .ref a6, g17, g18, g19, g20, g21, g22, g23, g24])), (a4, .inl (cB25, 5, .inl f108)), (a6, .inl (cB29, 5, .inl f30))]) (wr := [(a5, .inl (cB27, 5, .inl f109))]) (va_runV (As := [.ref a1, .int 2, .int z106]) (rest := []) ⟨hx, hb, hml, hown, hts⟩ (kX8_isFree l dC dI a0 a1 2 z106 a4 a6 (.ref a5) (.int z107) (.int k8) (g9) (g10) (g11) (g12) (.int k13) (g14) (g15) (g16) (g17) (g18) (g19) (g20) (g21) (g22) (g23) (g24) cB25 f108 cB29 f30 (by first | omega | (simp only [ltv_0, ltv_2]; omega)) H.size) (cwV 3 hts gX8_fill_s2_1 rfl rfl rfl (by decide +kernel) ⟨Nat.le_of_ble_eq_true rfl, Nat.le_of_ble_eq_true rfl⟩) (PV (hP.sub (ws' := [(a0, .inr (6, [.ref a4, .ref a5, .int z107])), (a1, .inr (4, [.int k8, g9, g10, g11, g12, .int k13, g14, g15, g16, .ref a6, g17, g18, g19, g20, g21, g22, g23, g24])), (a4, .inl (cB25, 5, .inl f108)), (a6, .inl (cB29, 5, .inl f30))]) [0, 1, 2, 4] rfl) (hK.sub (tys' := [(cB25, .int), (cB29, .int)]) [0, 2] rfl) (hD.sub (ws' := [(a0, .inr (6, [.ref a4, .ref a5, .int z107])), (a1, .inr (4, [.int k8, g9, g10, g11, g12, .int k13, g14, g15, g16, .ref a6, g17, g18, g19, g20, g21, g22, g23, g24])), (a4, .inl (cB25, 5, .inl f108)), (a6, .inl (cB29, 5, .inl f30))]) [0, 1, 2, 4] (by decide) rfl) hN 0 rfl rfl) rfl rfl hl.1 rfl (lv_room (Nat.le_of_ble_eq_true rfl)) dX8_fill_75 ⟨Nat.le_of_ble_eq_true rfl, Nat.le_of_ble_eq_true rfl⟩) hP hD hK hS hA [0, 1, 2, 4] [3] rfl rfl (by decide) (by decide) (fun z113 _u H locs hw hP hD hK hS => ?_)
              have b114 := hw
              have hP : va_P (dC, dI) vwCl [(a5, .inl (cB27, 5, .inl f109)), (a0, .inr (6, [.ref a4, .ref a5, .int z107])), (a1, .inr (4, [.int k8, g9, g10, g11, g12, .int k13, g14, g15, g16, .ref a6, g17, g18, g19, g20, g21, g22, g23, g24])), (a4, .inl (cB25, 5, .inl f108)), (a6, .inl (cB29, 5, .inl f30))] H := hP
              have hD : va_D A [(a5, .inl (cB27, 5, .inl f109)), (a0, .inr (6, [.ref a4, .ref a5, .int z107])), (a1, .inr (4, [.int k8, g9, g10, g11, g12, .int k13, g14, g15, g16, .ref a6, g17, g18, g19, g20, g21, g22, g23, g24])), (a4, .inl (cB25, 5, .inl f108)), (a6, .inl (cB29, 5, .inl f30))] := hD
              have hK : va_K (dC, dI) vwCl [(cB25, .int), (cB27, .int), (cB29, .int)] s := hK
              refine lv_if_eq (tgt := 100) hx hb dX8_fill_78 (by decide) (fun c115 => ?_) (fun c115 => ?_)
              · simp only [fa_lt, fa_le, fa_eq, ltv_0] at c115
                obtain ⟨z116, ez116⟩ : ∃ y : Int32, y = z106 + 1 := ⟨_, rfl⟩
                have tz116 : z116.toInt = z106.toInt + 1 := by rw [ez116, iadd_t (by simp only [ltv_1]; omega) (by simp only [ltv_1]; omega)]; simp only [ltv_1]
                refine lv_iinc (v := z116) (lv' := [(5, .int z116), (0, .ref a0), (1, .ref a1), (2, .int 2), (3, .int k2), (4, .int k3)]) hx hb dX8_fill_100 hl (k := 0) rfl (by rw [ez116]; rfl) (by decide) rfl (fun ls hl => ?_)
                refine lv_goto (tgt := 52) hx hb dX8_fill_103 (by decide) ?_
                exact ih52 z116 z107 f108 f109 H locs ls (by first | omega | (simp only [ltv_0, ltv_2]; omega)) (by first | omega | (simp only [ltv_0, ltv_2]; omega)) (hP.sub (ws' := [(a0, .inr (6, [.ref a4, .ref a5, .int z107])), (a1, .inr (4, [.int k8, g9, g10, g11, g12, .int k13, g14, g15, g16, .ref a6, g17, g18, g19, g20, g21, g22, g23, g24])), (a4, .inl (cB25, 5, .inl f108)), (a5, .inl (cB27, 5, .inl f109)), (a6, .inl (cB29, 5, .inl f30))]) [1, 2, 3, 0, 4] rfl) (hD.sub (ws' := [(a0, .inr (6, [.ref a4, .ref a5, .int z107])), (a1, .inr (4, [.int k8, g9, g10, g11, g12, .int k13, g14, g15, g16, .ref a6, g17, g18, g19, g20, g21, g22, g23, g24])), (a4, .inl (cB25, 5, .inl f108)), (a5, .inl (cB27, 5, .inl f109)), (a6, .inl (cB29, 5, .inl f30))]) [1, 2, 3, 0, 4] (by decide) rfl) hS (lv_sub hl [0, 1, 2, 3, 4, 5] rfl)
              · simp only [fa_lt, fa_le, fa_eq, ltv_0] at c115
                refine lv_aload_n hx hb dX8_fill_81 rfl (lv_at hl 1 rfl) ?_
                refine va_get (D := (dC, dI)) (ci := 6) (v := .ref a4) (C := RX8) (T := TX8) (N := 3) hx hb hts iX8_fill_s2_X8 hown hK hP 1 rfl rfl 0 (by decide) (hts (.fieldLink RX8 9 "HookPier$Seats" "row" "[I") (List.mem_of_getElem? (i := 8) rfl)) (fun _ h9 => h9) rfl dX8_fill_82 ?_
                refine lv_iload_n hx hb dX8_fill_85 rfl (lv_at hl 3 rfl) ?_
                refine lv_iload hx hb dX8_fill_86 (lv_at hl 0 rfl) ?_
                refine va_iast hx hb hK hP hD hS 3 0 rfl rfl (by unfold vp_in; decide) dX8_fill_88 (fun H locs hP hD hS => ?_)
                have hP : va_P (dC, dI) vwCl [(a5, .inl (cB27, 5, .inl f109)), (a0, .inr (6, [.ref a4, .ref a5, .int z107])), (a1, .inr (4, [.int k8, g9, g10, g11, g12, .int k13, g14, g15, g16, .ref a6, g17, g18, g19, g20, g21, g22, g23, g24])), (a4, .inl (cB25, 5, .inl (upd f108 (2 : Int32).toNatClampNeg z106))), (a6, .inl (cB29, 5, .inl f30))] H := hP
                have hD : va_D A [(a5, .inl (cB27, 5, .inl f109)), (a0, .inr (6, [.ref a4, .ref a5, .int z107])), (a1, .inr (4, [.int k8, g9, g10, g11, g12, .int k13, g14, g15, g16, .ref a6, g17, g18, g19, g20, g21, g22, g23, g24])), (a4, .inl (cB25, 5, .inl (upd f108 (2 : Int32).toNatClampNeg z106))), (a6, .inl (cB29, 5, .inl f30))] := hD
                generalize upd f108 (2 : Int32).toNatClampNeg z106 = f117 at hP hD
                refine lv_aload_n hx hb dX8_fill_89 rfl (lv_at hl 1 rfl) ?_
                refine lv_aload_n hx hb dX8_fill_90 rfl (lv_at hl 2 rfl) ?_
                refine lv_iload_n hx hb dX8_fill_91 rfl (lv_at hl 3 rfl) ?_
                refine lv_iconst (v := 1) hx hb dX8_fill_92 (by decide) ?_
                refine lv_iadd hx hb dX8_fill_93 ?_
                refine lv_topi (fun z118 ez118 => ?_)
                obtain rfl : z118 = 3 := ez118.trans (by decide)
                refine lv_iload_n hx hb dX8_fill_94 rfl (lv_at hl 4 rfl) ?_
                refine lv_iload hx hb dX8_fill_95 (lv_at hl 5 rfl) ?_
                refine cl_v (wc := [(a0, .inr (6, [.ref a4, .ref a5, .int z107])), (a1, .inr (4, [.int k8, g9, g10, g11, g12, .int k13, g14, g15, g16, .ref a6, g17, g18, g19, g20, g21, g22, g23, g24])), (a4, .inl (cB25, 5, .inl f117)), (a5, .inl (cB27, 5, .inl f109)), (a6, .inl (cB29, 5, .inl f30))]) (wr := []) (va_runV (As := [.ref a1, .int 3, .int k2, .int k3]) (rest := []) ⟨hx, hb, hml, hown, hts⟩ (kX8_fill_s3 l dC dI a0 a1 k2 k3 a4 a5 a6 z107 k8 (g9) (g10) (g11) (g12) k13 (g14) (g15) (g16) (g17) (g18) (g19) (g20) (g21) (g22) (g23) (g24) cB25 f117 cB27 f109 cB29 f30 (by first | omega | (simp only [ltv_0, ltv_3]; omega)) (by first | omega | (simp only [ltv_0, ltv_3]; omega)) H.size) (cwV 4 hts gX8_fill_s2_2 rfl rfl rfl (by decide +kernel) ⟨Nat.le_of_ble_eq_true rfl, Nat.le_of_ble_eq_true rfl⟩) (PV (hP.sub (ws' := [(a0, .inr (6, [.ref a4, .ref a5, .int z107])), (a1, .inr (4, [.int k8, g9, g10, g11, g12, .int k13, g14, g15, g16, .ref a6, g17, g18, g19, g20, g21, g22, g23, g24])), (a4, .inl (cB25, 5, .inl f117)), (a5, .inl (cB27, 5, .inl f109)), (a6, .inl (cB29, 5, .inl f30))]) [1, 2, 3, 0, 4] rfl) (hK.sub (tys' := [(cB25, .int), (cB27, .int), (cB29, .int)]) [0, 1, 2] rfl) (hD.sub (ws' := [(a0, .inr (6, [.ref a4, .ref a5, .int z107])), (a1, .inr (4, [.int k8, g9, g10, g11, g12, .int k13, g14, g15, g16, .ref a6, g17, g18, g19, g20, g21, g22, g23, g24])), (a4, .inl (cB25, 5, .inl f117)), (a5, .inl (cB27, 5, .inl f109)), (a6, .inl (cB29, 5, .inl f30))]) [1, 2, 3, 0, 4] (by decide) rfl) hN 0 rfl rfl) rfl rfl hl.1 rfl (lv_room (Nat.le_of_ble_eq_true rfl)) dX8_fill_97 ⟨Nat.le_of_ble_eq_true rfl, Nat.le_of_ble_eq_true rfl⟩) hP hD hK hS hA [1, 2, 3, 0, 4] [] rfl rfl (by decide) (by decide) (fun u H locs hw hP hD hK hS => ?_)
                obtain ⟨z119, f120, f121⟩ := u
                have b122 := hw
                have hP : va_P (dC, dI) vwCl [(a0, .inr (6, [.ref a4, .ref a5, .int z119])), (a1, .inr (4, [.int k8, g9, g10, g11, g12, .int k13, g14, g15, g16, .ref a6, g17, g18, g19, g20, g21, g22, g23, g24])), (a4, .inl (cB25, 5, .inl f120)), (a5, .inl (cB27, 5, .inl f121)), (a6, .inl (cB29, 5, .inl f30))] H := hP
                have hD : va_D A [(a0, .inr (6, [.ref a4, .ref a5, .int z119])), (a1, .inr (4, [.int k8, g9, g10, g11, g12, .int k13, g14, g15, g16, .ref a6, g17, g18, g19, g20, g21, g22, g23, g24])), (a4, .inl (cB25, 5, .inl f120)), (a5, .inl (cB27, 5, .inl f121)), (a6, .inl (cB29, 5, .inl f30))] := hD
                have hK : va_K (dC, dI) vwCl [(cB25, .int), (cB27, .int), (cB29, .int)] s := hK
                obtain ⟨z123, ez123⟩ : ∃ y : Int32, y = z106 + 1 := ⟨_, rfl⟩
                have tz123 : z123.toInt = z106.toInt + 1 := by rw [ez123, iadd_t (by simp only [ltv_1]; omega) (by simp only [ltv_1]; omega)]; simp only [ltv_1]
                refine lv_iinc (v := z123) (lv' := [(5, .int z123), (0, .ref a0), (1, .ref a1), (2, .int 2), (3, .int k2), (4, .int k3)]) hx hb dX8_fill_100 hl (k := 0) rfl (by rw [ez123]; rfl) (by decide) rfl (fun ls hl => ?_)
                refine lv_goto (tgt := 52) hx hb dX8_fill_103 (by decide) ?_
                exact ih52 z123 z119 f120 f121 H locs ls (by first | omega | (simp only [ltv_0, ltv_2]; omega)) (by first | omega | (simp only [ltv_0, ltv_2]; omega)) hP hD hS (lv_sub hl [0, 1, 2, 3, 4, 5] rfl)
      exact L52_110 9 (0) k7 f26 f28 s.heap _ ls (by first | omega | (simp only [ltv_0, ltv_2]; omega)) (by first | omega | (simp only [ltv_0, ltv_2]; omega)) hP hD hS (lv_sub hl [0, 1, 2, 3, 4, 5] rfl)
    · simp only [fa_lt, fa_le, fa_eq, ltv_0] at c8
      refine lv_aload_n hx hb dX8_fill_30 rfl (lv_at hl 0 rfl) ?_
      refine va_get (D := (dC, dI)) (ci := 6) (v := .ref a4) (C := RX8) (T := TX8) (N := 3) hx hb hts iX8_fill_s2_X8 hown hK hP 0 rfl rfl 0 (by decide) (hts (.fieldLink RX8 9 "HookPier$Seats" "row" "[I") (List.mem_of_getElem? (i := 8) rfl)) (fun _ h9 => h9) rfl dX8_fill_31 ?_
      refine lv_iload_n hx hb dX8_fill_34 rfl (lv_at hl 2 rfl) ?_
      refine lv_iconst (v := (-1)) hx hb dX8_fill_35 (by decide) ?_
      refine va_iast hx hb hK hP hD hS 2 0 rfl rfl (by unfold vp_in; decide) dX8_fill_36 (fun H locs hP hD hS => ?_)
      have hP : va_P (dC, dI) vwCl [(a0, .inr (6, [.ref a4, .ref a5, .int k7])), (a1, .inr (4, [.int k8, g9, g10, g11, g12, .int k13, g14, g15, g16, .ref a6, g17, g18, g19, g20, g21, g22, g23, g24])), (a4, .inl (cB25, 5, .inl (upd f26 (2 : Int32).toNatClampNeg (-1)))), (a5, .inl (cB27, 5, .inl f28)), (a6, .inl (cB29, 5, .inl f30))] H := hP
      have hD : va_D A [(a0, .inr (6, [.ref a4, .ref a5, .int k7])), (a1, .inr (4, [.int k8, g9, g10, g11, g12, .int k13, g14, g15, g16, .ref a6, g17, g18, g19, g20, g21, g22, g23, g24])), (a4, .inl (cB25, 5, .inl (upd f26 (2 : Int32).toNatClampNeg (-1)))), (a5, .inl (cB27, 5, .inl f28)), (a6, .inl (cB29, 5, .inl f30))] := hD
      generalize upd f26 (2 : Int32).toNatClampNeg (-1) = f124 at hP hD
      refine lv_aload_n hx hb dX8_fill_37 rfl (lv_at hl 0 rfl) ?_
      refine lv_aload_n hx hb dX8_fill_38 rfl (lv_at hl 1 rfl) ?_
      refine lv_iload_n hx hb dX8_fill_39 rfl (lv_at hl 2 rfl) ?_
      refine lv_iconst (v := 1) hx hb dX8_fill_40 (by decide) ?_
      refine lv_iadd hx hb dX8_fill_41 ?_
      refine lv_topi (fun z125 ez125 => ?_)
      obtain rfl : z125 = 3 := ez125.trans (by decide)
      refine lv_iload_n hx hb dX8_fill_42 rfl (lv_at hl 3 rfl) ?_
      refine lv_iload hx hb dX8_fill_43 (lv_at hl 4 rfl) ?_
      refine cl_v (wc := [(a0, .inr (6, [.ref a4, .ref a5, .int k7])), (a1, .inr (4, [.int k8, g9, g10, g11, g12, .int k13, g14, g15, g16, .ref a6, g17, g18, g19, g20, g21, g22, g23, g24])), (a4, .inl (cB25, 5, .inl f124)), (a5, .inl (cB27, 5, .inl f28)), (a6, .inl (cB29, 5, .inl f30))]) (wr := []) (va_runV (As := [.ref a1, .int 3, .int k2, .int k3]) (rest := []) ⟨hx, hb, hml, hown, hts⟩ (kX8_fill_s3 l dC dI a0 a1 k2 k3 a4 a5 a6 k7 k8 (g9) (g10) (g11) (g12) k13 (g14) (g15) (g16) (g17) (g18) (g19) (g20) (g21) (g22) (g23) (g24) cB25 f124 cB27 f28 cB29 f30 (by first | omega | (simp only [ltv_0, ltv_3]; omega)) (by first | omega | (simp only [ltv_0, ltv_3]; omega)) H.size) (cwV 4 hts gX8_fill_s2_2 rfl rfl rfl (by decide +kernel) ⟨Nat.le_of_ble_eq_true rfl, Nat.le_of_ble_eq_true rfl⟩) (PV (hP.sub (ws' := [(a0, .inr (6, [.ref a4, .ref a5, .int k7])), (a1, .inr (4, [.int k8, g9, g10, g11, g12, .int k13, g14, g15, g16, .ref a6, g17, g18, g19, g20, g21, g22, g23, g24])), (a4, .inl (cB25, 5, .inl f124)), (a5, .inl (cB27, 5, .inl f28)), (a6, .inl (cB29, 5, .inl f30))]) [0, 1, 2, 3, 4] rfl) (hK.sub (tys' := [(cB25, .int), (cB27, .int), (cB29, .int)]) [0, 1, 2] rfl) (hD.sub (ws' := [(a0, .inr (6, [.ref a4, .ref a5, .int k7])), (a1, .inr (4, [.int k8, g9, g10, g11, g12, .int k13, g14, g15, g16, .ref a6, g17, g18, g19, g20, g21, g22, g23, g24])), (a4, .inl (cB25, 5, .inl f124)), (a5, .inl (cB27, 5, .inl f28)), (a6, .inl (cB29, 5, .inl f30))]) [0, 1, 2, 3, 4] (by decide) rfl) hN 0 rfl rfl) rfl rfl hl.1 rfl (lv_room (Nat.le_of_ble_eq_true rfl)) dX8_fill_45 ⟨Nat.le_of_ble_eq_true rfl, Nat.le_of_ble_eq_true rfl⟩) hP hD hK hS hA [0, 1, 2, 3, 4] [] rfl rfl (by decide) (by decide) (fun u H locs hw hP hD hK hS => ?_)
      obtain ⟨z126, f127, f128⟩ := u
      have b129 := hw
      have hP : va_P (dC, dI) vwCl [(a0, .inr (6, [.ref a4, .ref a5, .int z126])), (a1, .inr (4, [.int k8, g9, g10, g11, g12, .int k13, g14, g15, g16, .ref a6, g17, g18, g19, g20, g21, g22, g23, g24])), (a4, .inl (cB25, 5, .inl f127)), (a5, .inl (cB27, 5, .inl f128)), (a6, .inl (cB29, 5, .inl f30))] H := hP
      have hD : va_D A [(a0, .inr (6, [.ref a4, .ref a5, .int z126])), (a1, .inr (4, [.int k8, g9, g10, g11, g12, .int k13, g14, g15, g16, .ref a6, g17, g18, g19, g20, g21, g22, g23, g24])), (a4, .inl (cB25, 5, .inl f127)), (a5, .inl (cB27, 5, .inl f128)), (a6, .inl (cB29, 5, .inl f30))] := hD
      have hK : va_K (dC, dI) vwCl [(cB25, .int), (cB27, .int), (cB29, .int)] s := hK
      have hP9 := hP.sub (ws' := [(a0, .inr (6, [.ref a4, .ref a5, .int z126])), (a1, .inr (4, [.int k8, g9, g10, g11, g12, .int k13, g14, g15, g16, .ref a6, g17, g18, g19, g20, g21, g22, g23, g24])), (a4, .inl (cB25, 5, .inl f127)), (a5, .inl (cB27, 5, .inl f128)), (a6, .inl (cB29, 5, .inl f30))]) [0, 1, 2, 3, 4] rfl
      have hD9 := hD.sub (ws' := [(a0, .inr (6, [.ref a4, .ref a5, .int z126])), (a1, .inr (4, [.int k8, g9, g10, g11, g12, .int k13, g14, g15, g16, .ref a6, g17, g18, g19, g20, g21, g22, g23, g24])), (a4, .inl (cB25, 5, .inl f127)), (a5, .inl (cB27, 5, .inl f128)), (a6, .inl (cB29, 5, .inl f30))]) [0, 1, 2, 3, 4] (by decide) rfl
      have hK9 := hK.sub (tys' := []) [] rfl
      exact W.vret hx hb hr (fun t ht hW => ⟨⟨(z126, f127, f128), rfl, trivial, by rw [ht]; exact hP9, va_K.moved hW.alike hK9, hD9⟩, hS.F ht⟩) hS.2.2 dX8_fill_48
def vX8_fill_s1 : List Cond := .code yX8_fill cX8_fill 6 none :: ([.fieldLink RX8 26 "HookPier$Plan" "askers" "I", .methodLink RX8 31 yX8_keepRow, .instanceMethod yX8_keepRow, .selects RX8 yX8_keepRow yX8_keepRow, .initialized RX8, .code yX8_keepRow cX8_keepRow 1 none, .fieldLink RX8 18 "HookPier$Seats" "found" "I", .fieldLink RX8 9 "HookPier$Seats" "row" "[I", .fieldLink RX8 15 "HookPier$Seats" "first" "[I", .methodLink RX8 41 arraycopyName, .native arraycopyName, .static arraycopyName, .initialized "java/lang/System", .fieldLink RX8 34 "HookPier$Plan" "spots" "I", .methodLink RX8 37 yX8_isFree, .instanceMethod yX8_isFree, .selects RX8 yX8_isFree yX8_isFree, .code yX8_isFree cX8_isFree 5 (some .boolean), .methodLink RX8 47 yX6_isTangle, .instanceMethod yX6_isTangle, .selects RX6 yX6_isTangle yX6_isTangle, .initialized RX6, .code yX6_isTangle cX6_isTangle 5 (some .boolean), .methodLink RX6 89 Lib.Math.abs.name, .static Lib.Math.abs.name, .initialized "java/lang/Math", .code Lib.Math.abs.name Lib.Math.abs.code 1 (some .int), .fieldLink RX6 39 "HookPier$Plan" "reach" "[I", .methodLink RX8 22 yX8_fill, .instanceMethod yX8_fill, .selects RX8 yX8_fill yX8_fill, .code yX8_fill cX8_fill 6 none] ++ wsX60 ++ wsX80)
theorem iX8_fill_s1_X6 : ∀ w ∈ wsX60, w ∈ vX8_fill_s1 := fun _ h => List.mem_cons_of_mem _ (List.mem_append_left _ (List.mem_append_right _ h))
theorem iX8_fill_s1_X8 : ∀ w ∈ wsX80, w ∈ vX8_fill_s1 := fun _ h => List.mem_cons_of_mem _ (List.mem_append_right _ h)
set_option maxRecDepth 20000 in
theorem gX8_fill_s1_0 : GoodIn vX8_fill_s1 (wsV RX8 31 RX8 yX8_keepRow vX8_keepRow) := goodIn_app (goodIn_r [.methodLink RX8 31 yX8_keepRow, .instanceMethod yX8_keepRow, .selects RX8 yX8_keepRow yX8_keepRow, .initialized RX8] [2, 3, 4, 5] (by decide +kernel) (by decide +kernel)) (goodIn_ca (goodIn_r (.code yX8_keepRow cX8_keepRow 1 none :: [.fieldLink RX8 18 "HookPier$Seats" "found" "I", .fieldLink RX8 9 "HookPier$Seats" "row" "[I", .fieldLink RX8 15 "HookPier$Seats" "first" "[I", .methodLink RX8 41 arraycopyName, .native arraycopyName, .static arraycopyName, .initialized "java/lang/System"]) [6, 7, 8, 9, 10, 11, 12, 13] (by decide +kernel) (by decide +kernel) : GoodIn vX8_fill_s1 (.code yX8_keepRow cX8_keepRow 1 none :: [.fieldLink RX8 18 "HookPier$Seats" "found" "I", .fieldLink RX8 9 "HookPier$Seats" "row" "[I", .fieldLink RX8 15 "HookPier$Seats" "first" "[I", .methodLink RX8 41 arraycopyName, .native arraycopyName, .static arraycopyName, .initialized "java/lang/System"])) (goodIn_sub iX8_fill_s1_X8 (by decide +kernel)))
set_option maxRecDepth 20000 in
theorem gX8_fill_s1_1 : GoodIn vX8_fill_s1 (wsV RX8 37 RX8 yX8_isFree vX8_isFree) := goodIn_app (goodIn_r [.methodLink RX8 37 yX8_isFree, .instanceMethod yX8_isFree, .selects RX8 yX8_isFree yX8_isFree, .initialized RX8] [15, 16, 17, 5] (by decide +kernel) (by decide +kernel)) (goodIn_ca (goodIn_ca (goodIn_r (.code yX8_isFree cX8_isFree 5 (some .boolean) :: [.fieldLink RX8 9 "HookPier$Seats" "row" "[I", .methodLink RX8 47 yX6_isTangle, .instanceMethod yX6_isTangle, .selects RX6 yX6_isTangle yX6_isTangle, .initialized RX6, .code yX6_isTangle cX6_isTangle 5 (some .boolean), .methodLink RX6 89 Lib.Math.abs.name, .static Lib.Math.abs.name, .initialized "java/lang/Math", .code Lib.Math.abs.name Lib.Math.abs.code 1 (some .int), .fieldLink RX6 39 "HookPier$Plan" "reach" "[I"]) [18, 8, 19, 20, 21, 22, 23, 24, 25, 26, 27, 28] (by decide +kernel) (by decide +kernel) : GoodIn vX8_fill_s1 (.code yX8_isFree cX8_isFree 5 (some .boolean) :: [.fieldLink RX8 9 "HookPier$Seats" "row" "[I", .methodLink RX8 47 yX6_isTangle, .instanceMethod yX6_isTangle, .selects RX6 yX6_isTangle yX6_isTangle, .initialized RX6, .code yX6_isTangle cX6_isTangle 5 (some .boolean), .methodLink RX6 89 Lib.Math.abs.name, .static Lib.Math.abs.name, .initialized "java/lang/Math", .code Lib.Math.abs.name Lib.Math.abs.code 1 (some .int), .fieldLink RX6 39 "HookPier$Plan" "reach" "[I"])) (goodIn_sub iX8_fill_s1_X8 (by decide +kernel))) (goodIn_sub iX8_fill_s1_X6 (by decide +kernel)))
set_option maxRecDepth 20000 in
theorem gX8_fill_s1_2 : GoodIn vX8_fill_s1 (wsV RX8 22 RX8 yX8_fill vX8_fill_s2) := goodIn_app (goodIn_r [.methodLink RX8 22 yX8_fill, .instanceMethod yX8_fill, .selects RX8 yX8_fill yX8_fill, .initialized RX8] [29, 30, 31, 5] (by decide +kernel) (by decide +kernel)) (goodIn_ca (goodIn_ca (goodIn_r (.code yX8_fill cX8_fill 6 none :: [.fieldLink RX8 26 "HookPier$Plan" "askers" "I", .methodLink RX8 31 yX8_keepRow, .instanceMethod yX8_keepRow, .selects RX8 yX8_keepRow yX8_keepRow, .initialized RX8, .code yX8_keepRow cX8_keepRow 1 none, .fieldLink RX8 18 "HookPier$Seats" "found" "I", .fieldLink RX8 9 "HookPier$Seats" "row" "[I", .fieldLink RX8 15 "HookPier$Seats" "first" "[I", .methodLink RX8 41 arraycopyName, .native arraycopyName, .static arraycopyName, .initialized "java/lang/System", .fieldLink RX8 34 "HookPier$Plan" "spots" "I", .methodLink RX8 37 yX8_isFree, .instanceMethod yX8_isFree, .selects RX8 yX8_isFree yX8_isFree, .code yX8_isFree cX8_isFree 5 (some .boolean), .methodLink RX8 47 yX6_isTangle, .instanceMethod yX6_isTangle, .selects RX6 yX6_isTangle yX6_isTangle, .initialized RX6, .code yX6_isTangle cX6_isTangle 5 (some .boolean), .methodLink RX6 89 Lib.Math.abs.name, .static Lib.Math.abs.name, .initialized "java/lang/Math", .code Lib.Math.abs.name Lib.Math.abs.code 1 (some .int), .fieldLink RX6 39 "HookPier$Plan" "reach" "[I", .methodLink RX8 22 yX8_fill, .instanceMethod yX8_fill, .selects RX8 yX8_fill yX8_fill, .code yX8_fill cX8_fill 6 none]) [0, 1, 2, 3, 4, 5, 6, 7, 8, 9, 10, 11, 12, 13, 14, 15, 16, 17, 18, 19, 20, 21, 22, 23, 24, 25, 26, 27, 28, 29, 30, 31, 0] (by decide +kernel) (by decide +kernel) : GoodIn vX8_fill_s1 (.code yX8_fill cX8_fill 6 none :: [.fieldLink RX8 26 "HookPier$Plan" "askers" "I", .methodLink RX8 31 yX8_keepRow, .instanceMethod yX8_keepRow, .selects RX8 yX8_keepRow yX8_keepRow, .initialized RX8, .code yX8_keepRow cX8_keepRow 1 none, .fieldLink RX8 18 "HookPier$Seats" "found" "I", .fieldLink RX8 9 "HookPier$Seats" "row" "[I", .fieldLink RX8 15 "HookPier$Seats" "first" "[I", .methodLink RX8 41 arraycopyName, .native arraycopyName, .static arraycopyName, .initialized "java/lang/System", .fieldLink RX8 34 "HookPier$Plan" "spots" "I", .methodLink RX8 37 yX8_isFree, .instanceMethod yX8_isFree, .selects RX8 yX8_isFree yX8_isFree, .code yX8_isFree cX8_isFree 5 (some .boolean), .methodLink RX8 47 yX6_isTangle, .instanceMethod yX6_isTangle, .selects RX6 yX6_isTangle yX6_isTangle, .initialized RX6, .code yX6_isTangle cX6_isTangle 5 (some .boolean), .methodLink RX6 89 Lib.Math.abs.name, .static Lib.Math.abs.name, .initialized "java/lang/Math", .code Lib.Math.abs.name Lib.Math.abs.code 1 (some .int), .fieldLink RX6 39 "HookPier$Plan" "reach" "[I", .methodLink RX8 22 yX8_fill, .instanceMethod yX8_fill, .selects RX8 yX8_fill yX8_fill, .code yX8_fill cX8_fill 6 none])) (goodIn_sub iX8_fill_s1_X6 (by decide +kernel))) (goodIn_sub iX8_fill_s1_X8 (by decide +kernel)))
set_option maxHeartbeats 2000000 in
set_option maxRecDepth 100000 in
theorem kX8_fill_s1 (l : Launch) (dC : Nat → ClassId) (dI : Nat → Nat → Nat) (a0 : Nat) (a1 : Nat) (k2 : Int32) (k3 : Int32) (a4 : Nat) (a5 : Nat) (a6 : Nat) (k7 : Int32) (k8 : Int32) (g9 : Value) (g10 : Value) (g11 : Value) (g12 : Value) (k13 : Int32) (g14 : Value) (g15 : Value) (g16 : Value) (g17 : Value) (g18 : Value) (g19 : Value) (g20 : Value) (g21 : Value) (g22 : Value) (g23 : Value) (g24 : Value) (cB25 : ClassId) (f26 : Nat → Int32) (cB27 : ClassId) (f28 : Nat → Int32) (cB29 : ClassId) (f30 : Nat → Int32) (hk8 : (0 ≤ k8.toInt ∧ k8.toInt ≤ 8)) (hk13 : (0 ≤ k13.toInt ∧ k13.toInt ≤ 5)) (sz : Nat) : Met l yX8_fill vX8_fill_s1 ({ frames := 6, cells := 0, slots := 0, locals := 160 }) (PC (dC, dI) [.ref a0, .ref a1, .int 1, .int k2, .int k3] sz [(a0, .inr (6, [.ref a4, .ref a5, .int k7])), (a1, .inr (4, [.int k8, g9, g10, g11, g12, .int k13, g14, g15, g16, .ref a6, g17, g18, g19, g20, g21, g22, g23, g24])), (a4, .inl (cB25, 5, .inl f26)), (a5, .inl (cB27, 5, .inl f28)), (a6, .inl (cB29, 5, .inl f30))] [(cB25, .int), (cB27, .int), (cB29, .int)]) (va_Qv (S := Int32 × (Nat → Int32) × (Nat → Int32)) (fun u => True) (fun u t => BC (dC, dI) (va_A [(a0, .inr (6, [.ref a4, .ref a5, .int k7])), (a1, .inr (4, [.int k8, g9, g10, g11, g12, .int k13, g14, g15, g16, .ref a6, g17, g18, g19, g20, g21, g22, g23, g24])), (a4, .inl (cB25, 5, .inl f26)), (a5, .inl (cB27, 5, .inl f28)), (a6, .inl (cB29, 5, .inl f30))] sz) [(a0, .inr (6, [.ref a4, .ref a5, .int (u.1)])), (a1, .inr (4, [.int k8, g9, g10, g11, g12, .int k13, g14, g15, g16, .ref a6, g17, g18, g19, g20, g21, g22, g23, g24])), (a4, .inl (cB25, 5, .inl (u.2.1))), (a5, .inl (cB27, 5, .inl (u.2.2))), (a6, .inl (cB29, 5, .inl f30))] [] t) (va_A [(a0, .inr (6, [.ref a4, .ref a5, .int k7])), (a1, .inr (4, [.int k8, g9, g10, g11, g12, .int k13, g14, g15, g16, .ref a6, g17, g18, g19, g20, g21, g22, g23, g24])), (a4, .inl (cB25, 5, .inl f26)), (a5, .inl (cB27, 5, .inl f28)), (a6, .inl (cB29, 5, .inl f30))] sz)) 0 0 (va_A [(a0, .inr (6, [.ref a4, .ref a5, .int k7])), (a1, .inr (4, [.int k8, g9, g10, g11, g12, .int k13, g14, g15, g16, .ref a6, g17, g18, g19, g20, g21, g22, g23, g24])), (a4, .inl (cB25, 5, .inl f26)), (a5, .inl (cB27, 5, .inl f28)), (a6, .inl (cB29, 5, .inl f30))] sz) := by
  refine Met.ofW (cc := cX8_fill) (maxL := 6) (ret := none) (by decide) rfl ?_
  intro p e s m args below meth c s₁ B hml hv
  obtain ⟨rfl, hsz, hP, hK, hD0, hN⟩ := hv
  have hx := B.exec
  have hb := B.bytes
  have hr := B.returns
  have hts := atoms_spec (ws := vX8_fill_s1) B.pre
  have hown : s.vm.findClass RX8 = some m.cls := findClass_of_methodNamed B.named
  have hlocks := B.notSynchronized
  subst hsz
  have hD := hD0.self (sz := s.heap.size)
  generalize hAe : va_A [(a0, .inr (6, [.ref a4, .ref a5, .int k7])), (a1, .inr (4, [.int k8, g9, g10, g11, g12, .int k13, g14, g15, g16, .ref a6, g17, g18, g19, g20, g21, g22, g23, g24])), (a4, .inl (cB25, 5, .inl f26)), (a5, .inl (cB27, 5, .inl f28)), (a6, .inl (cB29, 5, .inl f30))] s.heap.size = A at hD ⊢
  have hA : ∀ q : Nat, s.heap.size ≤ q → A q := fun q h => by rw [← hAe]; exact Or.inr h
  have hS : va_S A s.heap s.heap [] := va_S.rf
  have hP : va_P (dC, dI) vwCl [(a0, .inr (6, [.ref a4, .ref a5, .int k7])), (a1, .inr (4, [.int k8, g9, g10, g11, g12, .int k13, g14, g15, g16, .ref a6, g17, g18, g19, g20, g21, g22, g23, g24])), (a4, .inl (cB25, 5, .inl f26)), (a5, .inl (cB27, 5, .inl f28)), (a6, .inl (cB29, 5, .inl f30))] s.heap := hP
  have hl := lv_entry ([.ref a0, .ref a1, .int 1, .int k2, .int k3]) (n := 6) (Nat.le_of_ble_eq_true rfl)
  rw [lg_entry_eq]
  generalize (lg_sl ([.ref a0, .ref a1, .int 1, .int k2, .int k3]) ++ List.replicate (6 - (lg_sl ([.ref a0, .ref a1, .int 1, .int k2, .int k3])).length) Slot.unset).toArray = ls at hl ⊢
  have hl : lv_has ls 6 [(0, .ref a0), (1, .ref a1), (2, .int 1), (3, .int k2), (4, .int k3)] := hl
  refine lv_iload_n hx hb dX8_fill_0 rfl (lv_at hl 2 rfl) ?_
  refine lv_aload_n hx hb dX8_fill_1 rfl (lv_at hl 1 rfl) ?_
  refine va_get (D := (dC, dI)) (ci := 4) (v := .int k13) (C := RX6) (T := TX6) (N := 18) hx hb hts iX8_fill_s1_X6 hown hK hP 1 rfl rfl 5 (by decide) (hts (.fieldLink RX8 26 "HookPier$Plan" "askers" "I") (List.mem_of_getElem? (i := 1) rfl)) (fun _ h9 => h9) rfl dX8_fill_2 ?_
  refine lv_icmp_ge (tgt := 17) hx hb dX8_fill_5 (by decide) (fun c1 => ?_) (fun c1 => ?_)
  · simp only [fa_lt, fa_le, fa_eq, ltv_0, ltv_1] at c1
    refine lv_aload_n hx hb dX8_fill_17 rfl (lv_at hl 0 rfl) ?_
    refine cl_v (wc := [(a0, .inr (6, [.ref a4, .ref a5, .int k7])), (a4, .inl (cB25, 5, .inl f26)), (a5, .inl (cB27, 5, .inl f28))]) (wr := [(a1, .inr (4, [.int k8, g9, g10, g11, g12, .int k13, g14, g15, g16, .ref a6, g17, g18, g19, g20, g21, g22, g23, g24])), (a6, .inl (cB29, 5, .inl f30))]) (va_runV (As := []) (rest := []) ⟨hx, hb, hml, hown, hts⟩ (kX8_keepRow l dC dI a0 a4 a5 k7 cB25 f26 cB27 f28  s.heap.size) (cwV 0 hts gX8_fill_s1_0 rfl rfl rfl (by decide +kernel) ⟨Nat.le_of_ble_eq_true rfl, Nat.le_of_ble_eq_true rfl⟩) (PV (hP.sub (ws' := [(a0, .inr (6, [.ref a4, .ref a5, .int k7])), (a4, .inl (cB25, 5, .inl f26)), (a5, .inl (cB27, 5, .inl f28))]) [0, 2, 3] rfl) (hK.sub (tys' := [(cB25, .int), (cB27, .int)]) [0, 1] rfl) (hD.sub (ws' := [(a0, .inr (6, [.ref a4, .ref a5, .int k7])), (a4, .inl (cB25, 5, .inl f26)), (a5, .inl (cB27, 5, .inl f28))]) [0, 2, 3] (by decide) rfl) hN 0 rfl rfl) rfl rfl hl.1 rfl (lv_room (Nat.le_of_ble_eq_true rfl)) dX8_fill_18 ⟨Nat.le_of_ble_eq_true rfl, Nat.le_of_ble_eq_true rfl⟩) hP hD hK hS hA [0, 2, 3] [1, 4] rfl rfl (by decide) (by decide) (fun u H locs hw hP hD hK hS => ?_)
    obtain ⟨z2, f3⟩ := u
    have b4 := hw
    have hP : va_P (dC, dI) vwCl [(a1, .inr (4, [.int k8, g9, g10, g11, g12, .int k13, g14, g15, g16, .ref a6, g17, g18, g19, g20, g21, g22, g23, g24])), (a6, .inl (cB29, 5, .inl f30)), (a0, .inr (6, [.ref a4, .ref a5, .int z2])), (a4, .inl (cB25, 5, .inl f26)), (a5, .inl (cB27, 5, .inl f3))] H := hP
    have hD : va_D A [(a1, .inr (4, [.int k8, g9, g10, g11, g12, .int k13, g14, g15, g16, .ref a6, g17, g18, g19, g20, g21, g22, g23, g24])), (a6, .inl (cB29, 5, .inl f30)), (a0, .inr (6, [.ref a4, .ref a5, .int z2])), (a4, .inl (cB25, 5, .inl f26)), (a5, .inl (cB27, 5, .inl f3))] := hD
    have hK : va_K (dC, dI) vwCl [(cB25, .int), (cB27, .int), (cB29, .int)] s := hK
    have hP9 := hP.sub (ws' := [(a0, .inr (6, [.ref a4, .ref a5, .int z2])), (a1, .inr (4, [.int k8, g9, g10, g11, g12, .int k13, g14, g15, g16, .ref a6, g17, g18, g19, g20, g21, g22, g23, g24])), (a4, .inl (cB25, 5, .inl f26)), (a5, .inl (cB27, 5, .inl f3)), (a6, .inl (cB29, 5, .inl f30))]) [2, 0, 3, 4, 1] rfl
    have hD9 := hD.sub (ws' := [(a0, .inr (6, [.ref a4, .ref a5, .int z2])), (a1, .inr (4, [.int k8, g9, g10, g11, g12, .int k13, g14, g15, g16, .ref a6, g17, g18, g19, g20, g21, g22, g23, g24])), (a4, .inl (cB25, 5, .inl f26)), (a5, .inl (cB27, 5, .inl f3)), (a6, .inl (cB29, 5, .inl f30))]) [2, 0, 3, 4, 1] (by decide) rfl
    have hK9 := hK.sub (tys' := []) [] rfl
    exact W.vret hx hb hr (fun t ht hW => ⟨⟨(z2, f26, f3), rfl, trivial, by rw [ht]; exact hP9, va_K.moved hW.alike hK9, hD9⟩, hS.F ht⟩) hS.2.2 dX8_fill_21
  · simp only [fa_lt, fa_le, fa_eq, ltv_0, ltv_1] at c1
    refine lv_iload_n hx hb dX8_fill_8 rfl (lv_at hl 2 rfl) ?_
    refine lv_aload_n hx hb dX8_fill_9 rfl (lv_at hl 0 rfl) ?_
    refine va_get (D := (dC, dI)) (ci := 6) (v := .ref a4) (C := RX8) (T := TX8) (N := 3) hx hb hts iX8_fill_s1_X8 hown hK hP 0 rfl rfl 0 (by decide) (hts (.fieldLink RX8 9 "HookPier$Seats" "row" "[I") (List.mem_of_getElem? (i := 8) rfl)) (fun _ h9 => h9) rfl dX8_fill_10 ?_
    refine va_alen (v := 5) hx hb hK hP 2 0 rfl rfl rfl dX8_fill_13 ?_
    refine lv_icmp_lt (tgt := 22) hx hb dX8_fill_14 (by decide) (fun _ => ?_) (fun c5 => absurd c5 (by decide))
    refine lv_iload_n hx hb dX8_fill_22 rfl (lv_at hl 3 rfl) ?_
    refine lv_iload_n hx hb dX8_fill_23 rfl (lv_at hl 2 rfl) ?_
    refine lv_ishr hx hb dX8_fill_24 ?_
    refine lv_topi (fun z6 ez6 => ?_)
    clear ez6
    refine lv_iconst (v := 1) hx hb dX8_fill_25 (by decide) ?_
    refine lv_iand hx hb dX8_fill_26 ?_
    refine lv_topi (fun z7 ez7 => ?_)
    clear ez7
    refine lv_if_ne (tgt := 49) hx hb dX8_fill_27 (by decide) (fun c8 => ?_) (fun c8 => ?_)
    · simp only [fa_lt, fa_le, fa_eq, ltv_0] at c8
      refine lv_iconst (v := 0) hx hb dX8_fill_49 (by decide) ?_
      refine lv_istore (lv' := [(5, .int 0), (0, .ref a0), (1, .ref a1), (2, .int 1), (3, .int k2), (4, .int k3)]) hx hb dX8_fill_50 hl (by decide) rfl (fun ls hl => ?_)
      have L52_110 : ∀ (n : Nat) (z106 : Int32) (z107 : Int32) (f108 : Nat → Int32) (f109 : Nat → Int32) (H : Heap) (locs : List Loc) (ls : Array Slot), (0 ≤ z106.toInt ∧ z106.toInt ≤ 8) → 8 - z106.toInt < (n : Int) → va_P (dC, dI) vwCl [(a0, .inr (6, [.ref a4, .ref a5, .int z107])), (a1, .inr (4, [.int k8, g9, g10, g11, g12, .int k13, g14, g15, g16, .ref a6, g17, g18, g19, g20, g21, g22, g23, g24])), (a4, .inl (cB25, 5, .inl f108)), (a5, .inl (cB27, 5, .inl f109)), (a6, .inl (cB29, 5, .inl f30))] H → va_D A [(a0, .inr (6, [.ref a4, .ref a5, .int z107])), (a1, .inr (4, [.int k8, g9, g10, g11, g12, .int k13, g14, g15, g16, .ref a6, g17, g18, g19, g20, g21, g22, g23, g24])), (a4, .inl (cB25, 5, .inl f108)), (a5, .inl (cB27, 5, .inl f109)), (a6, .inl (cB29, 5, .inl f30))] → va_S A s.heap H locs → lv_has ls 6 [(5, .int z106), (0, .ref a0), (1, .ref a1), (2, .int 1), (3, .int k2), (4, .int k3)] → W p l e (headSpec vX8_fill_s1 { frames := 6, cells := 0, slots := 0, locals := 160 }).room s m ([.ref a0, .ref a1, .int 1, .int k2, .int k3]).toArray below meth c H locs 0 0 (MQ below (va_Qv (S := Int32 × (Nat → Int32) × (Nat → Int32)) (fun u => True) (fun u t => BC (dC, dI) A [(a0, .inr (6, [.ref a4, .ref a5, .int (u.1)])), (a1, .inr (4, [.int k8, g9, g10, g11, g12, .int k13, g14, g15, g16, .ref a6, g17, g18, g19, g20, g21, g22, g23, g24])), (a4, .inl (cB25, 5, .inl (u.2.1))), (a5, .inl (cB27, 5, .inl (u.2.2))), (a6, .inl (cB29, 5, .inl f30))] [] t) A) ([.ref a0, .ref a1, .int 1, .int k2, .int k3]).toArray s 0 0 A) (F0 m 52 ls []) := by
        intro n
        induction n with
        | zero =>
          intro z106 z107 f108 f109 H locs ls b52_0 hm _ _ _ _
          exact absurd hm (by omega)
        | succ n ih52 =>
          intro z106 z107 f108 f109 H locs ls b52_0 hm52 hP hD hS hl
          refine lv_iload hx hb dX8_fill_52 (lv_at hl 0 rfl) ?_
          refine lv_aload_n hx hb dX8_fill_54 rfl (lv_at hl 2 rfl) ?_
          refine va_get (D := (dC, dI)) (ci := 4) (v := .int k8) (C := RX6) (T := TX6) (N := 18) hx hb hts iX8_fill_s1_X6 hown hK hP 1 rfl rfl 0 (by decide) (hts (.fieldLink RX8 34 "HookPier$Plan" "spots" "I") (List.mem_of_getElem? (i := 14) rfl)) (fun _ h9 => h9) rfl dX8_fill_55 ?_
          refine lv_icmp_ge (tgt := 106) hx hb dX8_fill_58 (by decide) (fun c111 => ?_) (fun c111 => ?_)
          · simp only [fa_lt, fa_le, fa_eq, ltv_0] at c111
            have hP9 := hP.sub (ws' := [(a0, .inr (6, [.ref a4, .ref a5, .int z107])), (a1, .inr (4, [.int k8, g9, g10, g11, g12, .int k13, g14, g15, g16, .ref a6, g17, g18, g19, g20, g21, g22, g23, g24])), (a4, .inl (cB25, 5, .inl f108)), (a5, .inl (cB27, 5, .inl f109)), (a6, .inl (cB29, 5, .inl f30))]) [0, 1, 2, 3, 4] rfl
            have hD9 := hD.sub (ws' := [(a0, .inr (6, [.ref a4, .ref a5, .int z107])), (a1, .inr (4, [.int k8, g9, g10, g11, g12, .int k13, g14, g15, g16, .ref a6, g17, g18, g19, g20, g21, g22, g23, g24])), (a4, .inl (cB25, 5, .inl f108)), (a5, .inl (cB27, 5, .inl f109)), (a6, .inl (cB29, 5, .inl f30))]) [0, 1, 2, 3, 4] (by decide) rfl
            have hK9 := hK.sub (tys' := []) [] rfl
            exact W.vret hx hb hr (fun t ht hW => ⟨⟨(z107, f108, f109), rfl, trivial, by rw [ht]; exact hP9, va_K.moved hW.alike hK9, hD9⟩, hS.F ht⟩) hS.2.2 dX8_fill_106
          · simp only [fa_lt, fa_le, fa_eq, ltv_0] at c111
            refine lv_aload_n hx hb dX8_fill_61 rfl (lv_at hl 1 rfl) ?_
            refine va_get (D := (dC, dI)) (ci := 6) (v := .int z107) (C := RX8) (T := TX8) (N := 3) hx hb hts iX8_fill_s1_X8 hown hK hP 0 rfl rfl 2 (by decide) (hts (.fieldLink RX8 18 "HookPier$Seats" "found" "I") (List.mem_of_getElem? (i := 7) rfl)) (fun _ h9 => h9) rfl dX8_fill_62 ?_
            refine lv_iload hx hb dX8_fill_65 (lv_at hl 5 rfl) ?_
            refine lv_icmp_ge (tgt := 106) hx hb dX8_fill_67 (by decide) (fun c112 => ?_) (fun c112 => ?_)
            · simp only [fa_lt, fa_le, fa_eq, ltv_0] at c112
              have hP9 := hP.sub (ws' := [(a0, .inr (6, [.ref a4, .ref a5, .int z107])), (a1, .inr (4, [.int k8, g9, g10, g11, g12, .int k13, g14, g15, g16, .ref a6, g17, g18, g19, g20, g21, g22, g23, g24])), (a4, .inl (cB25, 5, .inl f108)), (a5, .inl (cB27, 5, .inl f109)), (a6, .inl (cB29, 5, .inl f30))]) [0, 1, 2, 3, 4] rfl
              have hD9 := hD.sub (ws' := [(a0, .inr (6, [.ref a4, .ref a5, .int z107])), (a1, .inr (4, [.int k8, g9, g10, g11, g12, .int k13, g14, g15, g16, .ref a6, g17, g18, g19, g20, g21, g22, g23, g24])), (a4, .inl (cB25, 5, .inl f108)), (a5, .inl (cB27, 5, .inl f109)), (a6, .inl (cB29, 5, .inl f30))]) [0, 1, 2, 3, 4] (by decide) rfl
              have hK9 := hK.sub (tys' := []) [] rfl
              exact W.vret hx hb hr (fun t ht hW => ⟨⟨(z107, f108, f109), rfl, trivial, by rw [ht]; exact hP9, va_K.moved hW.alike hK9, hD9⟩, hS.F ht⟩) hS.2.2 dX8_fill_106
            · simp only [fa_lt, fa_le, fa_eq, ltv_0] at c112
              refine lv_aload_n hx hb dX8_fill_70 rfl (lv_at hl 1 rfl) ?_
              refine lv_aload_n hx hb dX8_fill_71 rfl (lv_at hl 2 rfl) ?_
              refine lv_iload_n hx hb dX8_fill_72 rfl (lv_at hl 3 rfl) ?_
              refine lv_iload hx hb dX8_fill_73 (lv_at hl 0 rfl) ?_
              refine cl_i (wc := [(a0, .inr (6, [.ref a4, .ref a5, .int z107])), (a1, .inr (4, [.int k8, g9, g10, g11, g12, .int k13, g14, g15, g16, .ref a6, g17, g18, g19, g20, g21, g22, g23, g24])), (a4, .inl (cB25, 5, .inl f108)), (a6, .inl (cB29, 5, .inl f30))]) (wr := [(a5, .inl (cB27, 5, .inl f109))]) (va_runV (As := [.ref a1, .int 1, .int z106]) (rest := []) ⟨hx, hb, hml, hown, hts⟩ (kX8_isFree l dC dI a0 a1 1 z106 a4 a6 (.ref a5) (.int z107) (.int k8) (g9) (g10) (g11) (g12) (.int k13) (g14) (g15) (g16) (g17) (g18) (g19) (g20) (g21) (g22) (g23) (g24) cB25 f108 cB29 f30 (by first | omega | (simp only [ltv_0, ltv_1]; omega)) H.size) (cwV 3 hts gX8_fill_s1_1 rfl rfl rfl (by decide +kernel) ⟨Nat.le_of_ble_eq_true rfl, Nat.le_of_ble_eq_true rfl⟩) (PV (hP.sub (ws' := [(a0, .inr (6, [.ref a4, .ref a5, .int z107])), (a1, .inr (4, [.int k8, g9, g10, g11, g12, .int k13, g14, g15, g16, .ref a6, g17, g18, g19, g20, g21, g22, g23, g24])), (a4, .inl (cB25, 5, .inl f108)), (a6, .inl (cB29, 5, .inl f30))]) [0, 1, 2, 4] rfl) (hK.sub (tys' := [(cB25, .int), (cB29, .int)]) [0, 2] rfl) (hD.sub (ws' := [(a0, .inr (6, [.ref a4, .ref a5, .int z107])), (a1, .inr (4, [.int k8, g9, g10, g11, g12, .int k13, g14, g15, g16, .ref a6, g17, g18, g19, g20, g21, g22, g23, g24])), (a4, .inl (cB25, 5, .inl f108)), (a6, .inl (cB29, 5, .inl f30))]) [0, 1, 2, 4] (by decide) rfl) hN 0 rfl rfl) rfl rfl hl.1 rfl (lv_room (Nat.le_of_ble_eq_true rfl)) dX8_fill_75 ⟨Nat.le_of_ble_eq_true rfl, Nat.le_of_ble_eq_true rfl⟩) hP hD hK hS hA [0, 1, 2, 4] [3] rfl rfl (by decide) (by decide) (fun z113 _u H locs hw hP hD hK hS => ?_)
              have b114 := hw
              have hP : va_P (dC, dI) vwCl [(a5, .inl (cB27, 5, .inl f109)), (a0, .inr (6, [.ref a4, .ref a5, .int z107])), (a1, .inr (4, [.int k8, g9, g10, g11, g12, .int k13, g14, g15, g16, .ref a6, g17, g18, g19, g20, g21, g22, g23, g24])), (a4, .inl (cB25, 5, .inl f108)), (a6, .inl (cB29, 5, .inl f30))] H := hP
              have hD : va_D A [(a5, .inl (cB27, 5, .inl f109)), (a0, .inr (6, [.ref a4, .ref a5, .int z107])), (a1, .inr (4, [.int k8, g9, g10, g11, g12, .int k13, g14, g15, g16, .ref a6, g17, g18, g19, g20, g21, g22, g23, g24])), (a4, .inl (cB25, 5, .inl f108)), (a6, .inl (cB29, 5, .inl f30))] := hD
              have hK : va_K (dC, dI) vwCl [(cB25, .int), (cB27, .int), (cB29, .int)] s := hK
              refine lv_if_eq (tgt := 100) hx hb dX8_fill_78 (by decide) (fun c115 => ?_) (fun c115 => ?_)
              · simp only [fa_lt, fa_le, fa_eq, ltv_0] at c115
                obtain ⟨z116, ez116⟩ : ∃ y : Int32, y = z106 + 1 := ⟨_, rfl⟩
                have tz116 : z116.toInt = z106.toInt + 1 := by rw [ez116, iadd_t (by simp only [ltv_1]; omega) (by simp only [ltv_1]; omega)]; simp only [ltv_1]
                refine lv_iinc (v := z116) (lv' := [(5, .int z116), (0, .ref a0), (1, .ref a1), (2, .int 1), (3, .int k2), (4, .int k3)]) hx hb dX8_fill_100 hl (k := 0) rfl (by rw [ez116]; rfl) (by decide) rfl (fun ls hl => ?_)
                refine lv_goto (tgt := 52) hx hb dX8_fill_103 (by decide) ?_
                exact ih52 z116 z107 f108 f109 H locs ls (by first | omega | (simp only [ltv_0, ltv_1]; omega)) (by first | omega | (simp only [ltv_0, ltv_1]; omega)) (hP.sub (ws' := [(a0, .inr (6, [.ref a4, .ref a5, .int z107])), (a1, .inr (4, [.int k8, g9, g10, g11, g12, .int k13, g14, g15, g16, .ref a6, g17, g18, g19, g20, g21, g22, g23, g24])), (a4, .inl (cB25, 5, .inl f108)), (a5, .inl (cB27, 5, .inl f109)), (a6, .inl (cB29, 5, .inl f30))]) [1, 2, 3, 0, 4] rfl) (hD.sub (ws' := [(a0, .inr (6, [.ref a4, .ref a5, .int z107])), (a1, .inr (4, [.int k8, g9, g10, g11, g12, .int k13, g14, g15, g16, .ref a6, g17, g18, g19, g20, g21, g22, g23, g24])), (a4, .inl (cB25, 5, .inl f108)), (a5, .inl (cB27, 5, .inl f109)), (a6, .inl (cB29, 5, .inl f30))]) [1, 2, 3, 0, 4] (by decide) rfl) hS (lv_sub hl [0, 1, 2, 3, 4, 5] rfl)
              · simp only [fa_lt, fa_le, fa_eq, ltv_0] at c115
                refine lv_aload_n hx hb dX8_fill_81 rfl (lv_at hl 1 rfl) ?_
                refine va_get (D := (dC, dI)) (ci := 6) (v := .ref a4) (C := RX8) (T := TX8) (N := 3) hx hb hts iX8_fill_s1_X8 hown hK hP 1 rfl rfl 0 (by decide) (hts (.fieldLink RX8 9 "HookPier$Seats" "row" "[I") (List.mem_of_getElem? (i := 8) rfl)) (fun _ h9 => h9) rfl dX8_fill_82 ?_
                refine lv_iload_n hx hb dX8_fill_85 rfl (lv_at hl 3 rfl) ?_
                refine lv_iload hx hb dX8_fill_86 (lv_at hl 0 rfl) ?_
                refine va_iast hx hb hK hP hD hS 3 0 rfl rfl (by unfold vp_in; decide) dX8_fill_88 (fun H locs hP hD hS => ?_)
                have hP : va_P (dC, dI) vwCl [(a5, .inl (cB27, 5, .inl f109)), (a0, .inr (6, [.ref a4, .ref a5, .int z107])), (a1, .inr (4, [.int k8, g9, g10, g11, g12, .int k13, g14, g15, g16, .ref a6, g17, g18, g19, g20, g21, g22, g23, g24])), (a4, .inl (cB25, 5, .inl (upd f108 (1 : Int32).toNatClampNeg z106))), (a6, .inl (cB29, 5, .inl f30))] H := hP
                have hD : va_D A [(a5, .inl (cB27, 5, .inl f109)), (a0, .inr (6, [.ref a4, .ref a5, .int z107])), (a1, .inr (4, [.int k8, g9, g10, g11, g12, .int k13, g14, g15, g16, .ref a6, g17, g18, g19, g20, g21, g22, g23, g24])), (a4, .inl (cB25, 5, .inl (upd f108 (1 : Int32).toNatClampNeg z106))), (a6, .inl (cB29, 5, .inl f30))] := hD
                generalize upd f108 (1 : Int32).toNatClampNeg z106 = f117 at hP hD
                refine lv_aload_n hx hb dX8_fill_89 rfl (lv_at hl 1 rfl) ?_
                refine lv_aload_n hx hb dX8_fill_90 rfl (lv_at hl 2 rfl) ?_
                refine lv_iload_n hx hb dX8_fill_91 rfl (lv_at hl 3 rfl) ?_
                refine lv_iconst (v := 1) hx hb dX8_fill_92 (by decide) ?_
                refine lv_iadd hx hb dX8_fill_93 ?_
                refine lv_topi (fun z118 ez118 => ?_)
                obtain rfl : z118 = 2 := ez118.trans (by decide)
                refine lv_iload_n hx hb dX8_fill_94 rfl (lv_at hl 4 rfl) ?_
                refine lv_iload hx hb dX8_fill_95 (lv_at hl 5 rfl) ?_
                refine cl_v (wc := [(a0, .inr (6, [.ref a4, .ref a5, .int z107])), (a1, .inr (4, [.int k8, g9, g10, g11, g12, .int k13, g14, g15, g16, .ref a6, g17, g18, g19, g20, g21, g22, g23, g24])), (a4, .inl (cB25, 5, .inl f117)), (a5, .inl (cB27, 5, .inl f109)), (a6, .inl (cB29, 5, .inl f30))]) (wr := []) (va_runV (As := [.ref a1, .int 2, .int k2, .int k3]) (rest := []) ⟨hx, hb, hml, hown, hts⟩ (kX8_fill_s2 l dC dI a0 a1 k2 k3 a4 a5 a6 z107 k8 (g9) (g10) (g11) (g12) k13 (g14) (g15) (g16) (g17) (g18) (g19) (g20) (g21) (g22) (g23) (g24) cB25 f117 cB27 f109 cB29 f30 (by first | omega | (simp only [ltv_0, ltv_2]; omega)) (by first | omega | (simp only [ltv_0, ltv_2]; omega)) H.size) (cwV 4 hts gX8_fill_s1_2 rfl rfl rfl (by decide +kernel) ⟨Nat.le_of_ble_eq_true rfl, Nat.le_of_ble_eq_true rfl⟩) (PV (hP.sub (ws' := [(a0, .inr (6, [.ref a4, .ref a5, .int z107])), (a1, .inr (4, [.int k8, g9, g10, g11, g12, .int k13, g14, g15, g16, .ref a6, g17, g18, g19, g20, g21, g22, g23, g24])), (a4, .inl (cB25, 5, .inl f117)), (a5, .inl (cB27, 5, .inl f109)), (a6, .inl (cB29, 5, .inl f30))]) [1, 2, 3, 0, 4] rfl) (hK.sub (tys' := [(cB25, .int), (cB27, .int), (cB29, .int)]) [0, 1, 2] rfl) (hD.sub (ws' := [(a0, .inr (6, [.ref a4, .ref a5, .int z107])), (a1, .inr (4, [.int k8, g9, g10, g11, g12, .int k13, g14, g15, g16, .ref a6, g17, g18, g19, g20, g21, g22, g23, g24])), (a4, .inl (cB25, 5, .inl f117)), (a5, .inl (cB27, 5, .inl f109)), (a6, .inl (cB29, 5, .inl f30))]) [1, 2, 3, 0, 4] (by decide) rfl) hN 0 rfl rfl) rfl rfl hl.1 rfl (lv_room (Nat.le_of_ble_eq_true rfl)) dX8_fill_97 ⟨Nat.le_of_ble_eq_true rfl, Nat.le_of_ble_eq_true rfl⟩) hP hD hK hS hA [1, 2, 3, 0, 4] [] rfl rfl (by decide) (by decide) (fun u H locs hw hP hD hK hS => ?_)
                obtain ⟨z119, f120, f121⟩ := u
                have b122 := hw
                have hP : va_P (dC, dI) vwCl [(a0, .inr (6, [.ref a4, .ref a5, .int z119])), (a1, .inr (4, [.int k8, g9, g10, g11, g12, .int k13, g14, g15, g16, .ref a6, g17, g18, g19, g20, g21, g22, g23, g24])), (a4, .inl (cB25, 5, .inl f120)), (a5, .inl (cB27, 5, .inl f121)), (a6, .inl (cB29, 5, .inl f30))] H := hP
                have hD : va_D A [(a0, .inr (6, [.ref a4, .ref a5, .int z119])), (a1, .inr (4, [.int k8, g9, g10, g11, g12, .int k13, g14, g15, g16, .ref a6, g17, g18, g19, g20, g21, g22, g23, g24])), (a4, .inl (cB25, 5, .inl f120)), (a5, .inl (cB27, 5, .inl f121)), (a6, .inl (cB29, 5, .inl f30))] := hD
                have hK : va_K (dC, dI) vwCl [(cB25, .int), (cB27, .int), (cB29, .int)] s := hK
                obtain ⟨z123, ez123⟩ : ∃ y : Int32, y = z106 + 1 := ⟨_, rfl⟩
                have tz123 : z123.toInt = z106.toInt + 1 := by rw [ez123, iadd_t (by simp only [ltv_1]; omega) (by simp only [ltv_1]; omega)]; simp only [ltv_1]
                refine lv_iinc (v := z123) (lv' := [(5, .int z123), (0, .ref a0), (1, .ref a1), (2, .int 1), (3, .int k2), (4, .int k3)]) hx hb dX8_fill_100 hl (k := 0) rfl (by rw [ez123]; rfl) (by decide) rfl (fun ls hl => ?_)
                refine lv_goto (tgt := 52) hx hb dX8_fill_103 (by decide) ?_
                exact ih52 z123 z119 f120 f121 H locs ls (by first | omega | (simp only [ltv_0, ltv_1]; omega)) (by first | omega | (simp only [ltv_0, ltv_1]; omega)) hP hD hS (lv_sub hl [0, 1, 2, 3, 4, 5] rfl)
      exact L52_110 9 (0) k7 f26 f28 s.heap _ ls (by first | omega | (simp only [ltv_0, ltv_1]; omega)) (by first | omega | (simp only [ltv_0, ltv_1]; omega)) hP hD hS (lv_sub hl [0, 1, 2, 3, 4, 5] rfl)
    · simp only [fa_lt, fa_le, fa_eq, ltv_0] at c8
      refine lv_aload_n hx hb dX8_fill_30 rfl (lv_at hl 0 rfl) ?_
      refine va_get (D := (dC, dI)) (ci := 6) (v := .ref a4) (C := RX8) (T := TX8) (N := 3) hx hb hts iX8_fill_s1_X8 hown hK hP 0 rfl rfl 0 (by decide) (hts (.fieldLink RX8 9 "HookPier$Seats" "row" "[I") (List.mem_of_getElem? (i := 8) rfl)) (fun _ h9 => h9) rfl dX8_fill_31 ?_
      refine lv_iload_n hx hb dX8_fill_34 rfl (lv_at hl 2 rfl) ?_
      refine lv_iconst (v := (-1)) hx hb dX8_fill_35 (by decide) ?_
      refine va_iast hx hb hK hP hD hS 2 0 rfl rfl (by unfold vp_in; decide) dX8_fill_36 (fun H locs hP hD hS => ?_)
      have hP : va_P (dC, dI) vwCl [(a0, .inr (6, [.ref a4, .ref a5, .int k7])), (a1, .inr (4, [.int k8, g9, g10, g11, g12, .int k13, g14, g15, g16, .ref a6, g17, g18, g19, g20, g21, g22, g23, g24])), (a4, .inl (cB25, 5, .inl (upd f26 (1 : Int32).toNatClampNeg (-1)))), (a5, .inl (cB27, 5, .inl f28)), (a6, .inl (cB29, 5, .inl f30))] H := hP
      have hD : va_D A [(a0, .inr (6, [.ref a4, .ref a5, .int k7])), (a1, .inr (4, [.int k8, g9, g10, g11, g12, .int k13, g14, g15, g16, .ref a6, g17, g18, g19, g20, g21, g22, g23, g24])), (a4, .inl (cB25, 5, .inl (upd f26 (1 : Int32).toNatClampNeg (-1)))), (a5, .inl (cB27, 5, .inl f28)), (a6, .inl (cB29, 5, .inl f30))] := hD
      generalize upd f26 (1 : Int32).toNatClampNeg (-1) = f124 at hP hD
      refine lv_aload_n hx hb dX8_fill_37 rfl (lv_at hl 0 rfl) ?_
      refine lv_aload_n hx hb dX8_fill_38 rfl (lv_at hl 1 rfl) ?_
      refine lv_iload_n hx hb dX8_fill_39 rfl (lv_at hl 2 rfl) ?_
      refine lv_iconst (v := 1) hx hb dX8_fill_40 (by decide) ?_
      refine lv_iadd hx hb dX8_fill_41 ?_
      refine lv_topi (fun z125 ez125 => ?_)
      obtain rfl : z125 = 2 := ez125.trans (by decide)
      refine lv_iload_n hx hb dX8_fill_42 rfl (lv_at hl 3 rfl) ?_
      refine lv_iload hx hb dX8_fill_43 (lv_at hl 4 rfl) ?_
      refine cl_v (wc := [(a0, .inr (6, [.ref a4, .ref a5, .int k7])), (a1, .inr (4, [.int k8, g9, g10, g11, g12, .int k13, g14, g15, g16, .ref a6, g17, g18, g19, g20, g21, g22, g23, g24])), (a4, .inl (cB25, 5, .inl f124)), (a5, .inl (cB27, 5, .inl f28)), (a6, .inl (cB29, 5, .inl f30))]) (wr := []) (va_runV (As := [.ref a1, .int 2, .int k2, .int k3]) (rest := []) ⟨hx, hb, hml, hown, hts⟩ (kX8_fill_s2 l dC dI a0 a1 k2 k3 a4 a5 a6 k7 k8 (g9) (g10) (g11) (g12) k13 (g14) (g15) (g16) (g17) (g18) (g19) (g20) (g21) (g22) (g23) (g24) cB25 f124 cB27 f28 cB29 f30 (by first | omega | (simp only [ltv_0, ltv_2]; omega)) (by first | omega | (simp only [ltv_0, ltv_2]; omega)) H.size) (cwV 4 hts gX8_fill_s1_2 rfl rfl rfl (by decide +kernel) ⟨Nat.le_of_ble_eq_true rfl, Nat.le_of_ble_eq_true rfl⟩) (PV (hP.sub (ws' := [(a0, .inr (6, [.ref a4, .ref a5, .int k7])), (a1, .inr (4, [.int k8, g9, g10, g11, g12, .int k13, g14, g15, g16, .ref a6, g17, g18, g19, g20, g21, g22, g23, g24])), (a4, .inl (cB25, 5, .inl f124)), (a5, .inl (cB27, 5, .inl f28)), (a6, .inl (cB29, 5, .inl f30))]) [0, 1, 2, 3, 4] rfl) (hK.sub (tys' := [(cB25, .int), (cB27, .int), (cB29, .int)]) [0, 1, 2] rfl) (hD.sub (ws' := [(a0, .inr (6, [.ref a4, .ref a5, .int k7])), (a1, .inr (4, [.int k8, g9, g10, g11, g12, .int k13, g14, g15, g16, .ref a6, g17, g18, g19, g20, g21, g22, g23, g24])), (a4, .inl (cB25, 5, .inl f124)), (a5, .inl (cB27, 5, .inl f28)), (a6, .inl (cB29, 5, .inl f30))]) [0, 1, 2, 3, 4] (by decide) rfl) hN 0 rfl rfl) rfl rfl hl.1 rfl (lv_room (Nat.le_of_ble_eq_true rfl)) dX8_fill_45 ⟨Nat.le_of_ble_eq_true rfl, Nat.le_of_ble_eq_true rfl⟩) hP hD hK hS hA [0, 1, 2, 3, 4] [] rfl rfl (by decide) (by decide) (fun u H locs hw hP hD hK hS => ?_)
      obtain ⟨z126, f127, f128⟩ := u
      have b129 := hw
      have hP : va_P (dC, dI) vwCl [(a0, .inr (6, [.ref a4, .ref a5, .int z126])), (a1, .inr (4, [.int k8, g9, g10, g11, g12, .int k13, g14, g15, g16, .ref a6, g17, g18, g19, g20, g21, g22, g23, g24])), (a4, .inl (cB25, 5, .inl f127)), (a5, .inl (cB27, 5, .inl f128)), (a6, .inl (cB29, 5, .inl f30))] H := hP
      have hD : va_D A [(a0, .inr (6, [.ref a4, .ref a5, .int z126])), (a1, .inr (4, [.int k8, g9, g10, g11, g12, .int k13, g14, g15, g16, .ref a6, g17, g18, g19, g20, g21, g22, g23, g24])), (a4, .inl (cB25, 5, .inl f127)), (a5, .inl (cB27, 5, .inl f128)), (a6, .inl (cB29, 5, .inl f30))] := hD
      have hK : va_K (dC, dI) vwCl [(cB25, .int), (cB27, .int), (cB29, .int)] s := hK
      have hP9 := hP.sub (ws' := [(a0, .inr (6, [.ref a4, .ref a5, .int z126])), (a1, .inr (4, [.int k8, g9, g10, g11, g12, .int k13, g14, g15, g16, .ref a6, g17, g18, g19, g20, g21, g22, g23, g24])), (a4, .inl (cB25, 5, .inl f127)), (a5, .inl (cB27, 5, .inl f128)), (a6, .inl (cB29, 5, .inl f30))]) [0, 1, 2, 3, 4] rfl
      have hD9 := hD.sub (ws' := [(a0, .inr (6, [.ref a4, .ref a5, .int z126])), (a1, .inr (4, [.int k8, g9, g10, g11, g12, .int k13, g14, g15, g16, .ref a6, g17, g18, g19, g20, g21, g22, g23, g24])), (a4, .inl (cB25, 5, .inl f127)), (a5, .inl (cB27, 5, .inl f128)), (a6, .inl (cB29, 5, .inl f30))]) [0, 1, 2, 3, 4] (by decide) rfl
      have hK9 := hK.sub (tys' := []) [] rfl
      exact W.vret hx hb hr (fun t ht hW => ⟨⟨(z126, f127, f128), rfl, trivial, by rw [ht]; exact hP9, va_K.moved hW.alike hK9, hD9⟩, hS.F ht⟩) hS.2.2 dX8_fill_48
def vX8_fill_s0 : List Cond := .code yX8_fill cX8_fill 6 none :: ([.fieldLink RX8 26 "HookPier$Plan" "askers" "I", .methodLink RX8 31 yX8_keepRow, .instanceMethod yX8_keepRow, .selects RX8 yX8_keepRow yX8_keepRow, .initialized RX8, .code yX8_keepRow cX8_keepRow 1 none, .fieldLink RX8 18 "HookPier$Seats" "found" "I", .fieldLink RX8 9 "HookPier$Seats" "row" "[I", .fieldLink RX8 15 "HookPier$Seats" "first" "[I", .methodLink RX8 41 arraycopyName, .native arraycopyName, .static arraycopyName, .initialized "java/lang/System", .fieldLink RX8 34 "HookPier$Plan" "spots" "I", .methodLink RX8 37 yX8_isFree, .instanceMethod yX8_isFree, .selects RX8 yX8_isFree yX8_isFree, .code yX8_isFree cX8_isFree 5 (some .boolean), .methodLink RX8 47 yX6_isTangle, .instanceMethod yX6_isTangle, .selects RX6 yX6_isTangle yX6_isTangle, .initialized RX6, .code yX6_isTangle cX6_isTangle 5 (some .boolean), .methodLink RX6 89 Lib.Math.abs.name, .static Lib.Math.abs.name, .initialized "java/lang/Math", .code Lib.Math.abs.name Lib.Math.abs.code 1 (some .int), .fieldLink RX6 39 "HookPier$Plan" "reach" "[I", .methodLink RX8 22 yX8_fill, .instanceMethod yX8_fill, .selects RX8 yX8_fill yX8_fill, .code yX8_fill cX8_fill 6 none] ++ wsX60 ++ wsX80)
theorem iX8_fill_s0_X6 : ∀ w ∈ wsX60, w ∈ vX8_fill_s0 := fun _ h => List.mem_cons_of_mem _ (List.mem_append_left _ (List.mem_append_right _ h))
theorem iX8_fill_s0_X8 : ∀ w ∈ wsX80, w ∈ vX8_fill_s0 := fun _ h => List.mem_cons_of_mem _ (List.mem_append_right _ h)
set_option maxRecDepth 20000 in
theorem gX8_fill_s0_0 : GoodIn vX8_fill_s0 (wsV RX8 31 RX8 yX8_keepRow vX8_keepRow) := goodIn_app (goodIn_r [.methodLink RX8 31 yX8_keepRow, .instanceMethod yX8_keepRow, .selects RX8 yX8_keepRow yX8_keepRow, .initialized RX8] [2, 3, 4, 5] (by decide +kernel) (by decide +kernel)) (goodIn_ca (goodIn_r (.code yX8_keepRow cX8_keepRow 1 none :: [.fieldLink RX8 18 "HookPier$Seats" "found" "I", .fieldLink RX8 9 "HookPier$Seats" "row" "[I", .fieldLink RX8 15 "HookPier$Seats" "first" "[I", .methodLink RX8 41 arraycopyName, .native arraycopyName, .static arraycopyName, .initialized "java/lang/System"]) [6, 7, 8, 9, 10, 11, 12, 13] (by decide +kernel) (by decide +kernel) : GoodIn vX8_fill_s0 (.code yX8_keepRow cX8_keepRow 1 none :: [.fieldLink RX8 18 "HookPier$Seats" "found" "I", .fieldLink RX8 9 "HookPier$Seats" "row" "[I", .fieldLink RX8 15 "HookPier$Seats" "first" "[I", .methodLink RX8 41 arraycopyName, .native arraycopyName, .static arraycopyName, .initialized "java/lang/System"])) (goodIn_sub iX8_fill_s0_X8 (by decide +kernel)))
set_option maxRecDepth 20000 in
theorem gX8_fill_s0_1 : GoodIn vX8_fill_s0 (wsV RX8 37 RX8 yX8_isFree vX8_isFree) := goodIn_app (goodIn_r [.methodLink RX8 37 yX8_isFree, .instanceMethod yX8_isFree, .selects RX8 yX8_isFree yX8_isFree, .initialized RX8] [15, 16, 17, 5] (by decide +kernel) (by decide +kernel)) (goodIn_ca (goodIn_ca (goodIn_r (.code yX8_isFree cX8_isFree 5 (some .boolean) :: [.fieldLink RX8 9 "HookPier$Seats" "row" "[I", .methodLink RX8 47 yX6_isTangle, .instanceMethod yX6_isTangle, .selects RX6 yX6_isTangle yX6_isTangle, .initialized RX6, .code yX6_isTangle cX6_isTangle 5 (some .boolean), .methodLink RX6 89 Lib.Math.abs.name, .static Lib.Math.abs.name, .initialized "java/lang/Math", .code Lib.Math.abs.name Lib.Math.abs.code 1 (some .int), .fieldLink RX6 39 "HookPier$Plan" "reach" "[I"]) [18, 8, 19, 20, 21, 22, 23, 24, 25, 26, 27, 28] (by decide +kernel) (by decide +kernel) : GoodIn vX8_fill_s0 (.code yX8_isFree cX8_isFree 5 (some .boolean) :: [.fieldLink RX8 9 "HookPier$Seats" "row" "[I", .methodLink RX8 47 yX6_isTangle, .instanceMethod yX6_isTangle, .selects RX6 yX6_isTangle yX6_isTangle, .initialized RX6, .code yX6_isTangle cX6_isTangle 5 (some .boolean), .methodLink RX6 89 Lib.Math.abs.name, .static Lib.Math.abs.name, .initialized "java/lang/Math", .code Lib.Math.abs.name Lib.Math.abs.code 1 (some .int), .fieldLink RX6 39 "HookPier$Plan" "reach" "[I"])) (goodIn_sub iX8_fill_s0_X8 (by decide +kernel))) (goodIn_sub iX8_fill_s0_X6 (by decide +kernel)))
set_option maxRecDepth 20000 in
theorem gX8_fill_s0_2 : GoodIn vX8_fill_s0 (wsV RX8 22 RX8 yX8_fill vX8_fill_s1) := goodIn_app (goodIn_r [.methodLink RX8 22 yX8_fill, .instanceMethod yX8_fill, .selects RX8 yX8_fill yX8_fill, .initialized RX8] [29, 30, 31, 5] (by decide +kernel) (by decide +kernel)) (goodIn_ca (goodIn_ca (goodIn_r (.code yX8_fill cX8_fill 6 none :: [.fieldLink RX8 26 "HookPier$Plan" "askers" "I", .methodLink RX8 31 yX8_keepRow, .instanceMethod yX8_keepRow, .selects RX8 yX8_keepRow yX8_keepRow, .initialized RX8, .code yX8_keepRow cX8_keepRow 1 none, .fieldLink RX8 18 "HookPier$Seats" "found" "I", .fieldLink RX8 9 "HookPier$Seats" "row" "[I", .fieldLink RX8 15 "HookPier$Seats" "first" "[I", .methodLink RX8 41 arraycopyName, .native arraycopyName, .static arraycopyName, .initialized "java/lang/System", .fieldLink RX8 34 "HookPier$Plan" "spots" "I", .methodLink RX8 37 yX8_isFree, .instanceMethod yX8_isFree, .selects RX8 yX8_isFree yX8_isFree, .code yX8_isFree cX8_isFree 5 (some .boolean), .methodLink RX8 47 yX6_isTangle, .instanceMethod yX6_isTangle, .selects RX6 yX6_isTangle yX6_isTangle, .initialized RX6, .code yX6_isTangle cX6_isTangle 5 (some .boolean), .methodLink RX6 89 Lib.Math.abs.name, .static Lib.Math.abs.name, .initialized "java/lang/Math", .code Lib.Math.abs.name Lib.Math.abs.code 1 (some .int), .fieldLink RX6 39 "HookPier$Plan" "reach" "[I", .methodLink RX8 22 yX8_fill, .instanceMethod yX8_fill, .selects RX8 yX8_fill yX8_fill, .code yX8_fill cX8_fill 6 none]) [0, 1, 2, 3, 4, 5, 6, 7, 8, 9, 10, 11, 12, 13, 14, 15, 16, 17, 18, 19, 20, 21, 22, 23, 24, 25, 26, 27, 28, 29, 30, 31, 0] (by decide +kernel) (by decide +kernel) : GoodIn vX8_fill_s0 (.code yX8_fill cX8_fill 6 none :: [.fieldLink RX8 26 "HookPier$Plan" "askers" "I", .methodLink RX8 31 yX8_keepRow, .instanceMethod yX8_keepRow, .selects RX8 yX8_keepRow yX8_keepRow, .initialized RX8, .code yX8_keepRow cX8_keepRow 1 none, .fieldLink RX8 18 "HookPier$Seats" "found" "I", .fieldLink RX8 9 "HookPier$Seats" "row" "[I", .fieldLink RX8 15 "HookPier$Seats" "first" "[I", .methodLink RX8 41 arraycopyName, .native arraycopyName, .static arraycopyName, .initialized "java/lang/System", .fieldLink RX8 34 "HookPier$Plan" "spots" "I", .methodLink RX8 37 yX8_isFree, .instanceMethod yX8_isFree, .selects RX8 yX8_isFree yX8_isFree, .code yX8_isFree cX8_isFree 5 (some .boolean), .methodLink RX8 47 yX6_isTangle, .instanceMethod yX6_isTangle, .selects RX6 yX6_isTangle yX6_isTangle, .initialized RX6, .code yX6_isTangle cX6_isTangle 5 (some .boolean), .methodLink RX6 89 Lib.Math.abs.name, .static Lib.Math.abs.name, .initialized "java/lang/Math", .code Lib.Math.abs.name Lib.Math.abs.code 1 (some .int), .fieldLink RX6 39 "HookPier$Plan" "reach" "[I", .methodLink RX8 22 yX8_fill, .instanceMethod yX8_fill, .selects RX8 yX8_fill yX8_fill, .code yX8_fill cX8_fill 6 none])) (goodIn_sub iX8_fill_s0_X6 (by decide +kernel))) (goodIn_sub iX8_fill_s0_X8 (by decide +kernel)))
set_option maxHeartbeats 2000000 in
set_option maxRecDepth 100000 in
theorem kX8_fill_s0 (l : Launch) (dC : Nat → ClassId) (dI : Nat → Nat → Nat) (a0 : Nat) (a1 : Nat) (k2 : Int32) (k3 : Int32) (a4 : Nat) (a5 : Nat) (a6 : Nat) (k7 : Int32) (k8 : Int32) (g9 : Value) (g10 : Value) (g11 : Value) (g12 : Value) (k13 : Int32) (g14 : Value) (g15 : Value) (g16 : Value) (g17 : Value) (g18 : Value) (g19 : Value) (g20 : Value) (g21 : Value) (g22 : Value) (g23 : Value) (g24 : Value) (cB25 : ClassId) (f26 : Nat → Int32) (cB27 : ClassId) (f28 : Nat → Int32) (cB29 : ClassId) (f30 : Nat → Int32) (hk8 : (0 ≤ k8.toInt ∧ k8.toInt ≤ 8)) (hk13 : (0 ≤ k13.toInt ∧ k13.toInt ≤ 5)) (sz : Nat) : Met l yX8_fill vX8_fill_s0 ({ frames := 7, cells := 0, slots := 0, locals := 185 }) (PC (dC, dI) [.ref a0, .ref a1, .int 0, .int k2, .int k3] sz [(a0, .inr (6, [.ref a4, .ref a5, .int k7])), (a1, .inr (4, [.int k8, g9, g10, g11, g12, .int k13, g14, g15, g16, .ref a6, g17, g18, g19, g20, g21, g22, g23, g24])), (a4, .inl (cB25, 5, .inl f26)), (a5, .inl (cB27, 5, .inl f28)), (a6, .inl (cB29, 5, .inl f30))] [(cB25, .int), (cB27, .int), (cB29, .int)]) (va_Qv (S := Int32 × (Nat → Int32) × (Nat → Int32)) (fun u => True) (fun u t => BC (dC, dI) (va_A [(a0, .inr (6, [.ref a4, .ref a5, .int k7])), (a1, .inr (4, [.int k8, g9, g10, g11, g12, .int k13, g14, g15, g16, .ref a6, g17, g18, g19, g20, g21, g22, g23, g24])), (a4, .inl (cB25, 5, .inl f26)), (a5, .inl (cB27, 5, .inl f28)), (a6, .inl (cB29, 5, .inl f30))] sz) [(a0, .inr (6, [.ref a4, .ref a5, .int (u.1)])), (a1, .inr (4, [.int k8, g9, g10, g11, g12, .int k13, g14, g15, g16, .ref a6, g17, g18, g19, g20, g21, g22, g23, g24])), (a4, .inl (cB25, 5, .inl (u.2.1))), (a5, .inl (cB27, 5, .inl (u.2.2))), (a6, .inl (cB29, 5, .inl f30))] [] t) (va_A [(a0, .inr (6, [.ref a4, .ref a5, .int k7])), (a1, .inr (4, [.int k8, g9, g10, g11, g12, .int k13, g14, g15, g16, .ref a6, g17, g18, g19, g20, g21, g22, g23, g24])), (a4, .inl (cB25, 5, .inl f26)), (a5, .inl (cB27, 5, .inl f28)), (a6, .inl (cB29, 5, .inl f30))] sz)) 0 0 (va_A [(a0, .inr (6, [.ref a4, .ref a5, .int k7])), (a1, .inr (4, [.int k8, g9, g10, g11, g12, .int k13, g14, g15, g16, .ref a6, g17, g18, g19, g20, g21, g22, g23, g24])), (a4, .inl (cB25, 5, .inl f26)), (a5, .inl (cB27, 5, .inl f28)), (a6, .inl (cB29, 5, .inl f30))] sz) := by
  refine Met.ofW (cc := cX8_fill) (maxL := 6) (ret := none) (by decide) rfl ?_
  intro p e s m args below meth c s₁ B hml hv
  obtain ⟨rfl, hsz, hP, hK, hD0, hN⟩ := hv
  have hx := B.exec
  have hb := B.bytes
  have hr := B.returns
  have hts := atoms_spec (ws := vX8_fill_s0) B.pre
  have hown : s.vm.findClass RX8 = some m.cls := findClass_of_methodNamed B.named
  have hlocks := B.notSynchronized
  subst hsz
  have hD := hD0.self (sz := s.heap.size)
  generalize hAe : va_A [(a0, .inr (6, [.ref a4, .ref a5, .int k7])), (a1, .inr (4, [.int k8, g9, g10, g11, g12, .int k13, g14, g15, g16, .ref a6, g17, g18, g19, g20, g21, g22, g23, g24])), (a4, .inl (cB25, 5, .inl f26)), (a5, .inl (cB27, 5, .inl f28)), (a6, .inl (cB29, 5, .inl f30))] s.heap.size = A at hD ⊢
  have hA : ∀ q : Nat, s.heap.size ≤ q → A q := fun q h => by rw [← hAe]; exact Or.inr h
  have hS : va_S A s.heap s.heap [] := va_S.rf
  have hP : va_P (dC, dI) vwCl [(a0, .inr (6, [.ref a4, .ref a5, .int k7])), (a1, .inr (4, [.int k8, g9, g10, g11, g12, .int k13, g14, g15, g16, .ref a6, g17, g18, g19, g20, g21, g22, g23, g24])), (a4, .inl (cB25, 5, .inl f26)), (a5, .inl (cB27, 5, .inl f28)), (a6, .inl (cB29, 5, .inl f30))] s.heap := hP
  have hl := lv_entry ([.ref a0, .ref a1, .int 0, .int k2, .int k3]) (n := 6) (Nat.le_of_ble_eq_true rfl)
  rw [lg_entry_eq]
  generalize (lg_sl ([.ref a0, .ref a1, .int 0, .int k2, .int k3]) ++ List.replicate (6 - (lg_sl ([.ref a0, .ref a1, .int 0, .int k2, .int k3])).length) Slot.unset).toArray = ls at hl ⊢
  have hl : lv_has ls 6 [(0, .ref a0), (1, .ref a1), (2, .int 0), (3, .int k2), (4, .int k3)] := hl
  refine lv_iload_n hx hb dX8_fill_0 rfl (lv_at hl 2 rfl) ?_
  refine lv_aload_n hx hb dX8_fill_1 rfl (lv_at hl 1 rfl) ?_
  refine va_get (D := (dC, dI)) (ci := 4) (v := .int k13) (C := RX6) (T := TX6) (N := 18) hx hb hts iX8_fill_s0_X6 hown hK hP 1 rfl rfl 5 (by decide) (hts (.fieldLink RX8 26 "HookPier$Plan" "askers" "I") (List.mem_of_getElem? (i := 1) rfl)) (fun _ h9 => h9) rfl dX8_fill_2 ?_
  refine lv_icmp_ge (tgt := 17) hx hb dX8_fill_5 (by decide) (fun c1 => ?_) (fun c1 => ?_)
  · simp only [fa_lt, fa_le, fa_eq, ltv_0] at c1
    refine lv_aload_n hx hb dX8_fill_17 rfl (lv_at hl 0 rfl) ?_
    refine cl_v (wc := [(a0, .inr (6, [.ref a4, .ref a5, .int k7])), (a4, .inl (cB25, 5, .inl f26)), (a5, .inl (cB27, 5, .inl f28))]) (wr := [(a1, .inr (4, [.int k8, g9, g10, g11, g12, .int k13, g14, g15, g16, .ref a6, g17, g18, g19, g20, g21, g22, g23, g24])), (a6, .inl (cB29, 5, .inl f30))]) (va_runV (As := []) (rest := []) ⟨hx, hb, hml, hown, hts⟩ (kX8_keepRow l dC dI a0 a4 a5 k7 cB25 f26 cB27 f28  s.heap.size) (cwV 0 hts gX8_fill_s0_0 rfl rfl rfl (by decide +kernel) ⟨Nat.le_of_ble_eq_true rfl, Nat.le_of_ble_eq_true rfl⟩) (PV (hP.sub (ws' := [(a0, .inr (6, [.ref a4, .ref a5, .int k7])), (a4, .inl (cB25, 5, .inl f26)), (a5, .inl (cB27, 5, .inl f28))]) [0, 2, 3] rfl) (hK.sub (tys' := [(cB25, .int), (cB27, .int)]) [0, 1] rfl) (hD.sub (ws' := [(a0, .inr (6, [.ref a4, .ref a5, .int k7])), (a4, .inl (cB25, 5, .inl f26)), (a5, .inl (cB27, 5, .inl f28))]) [0, 2, 3] (by decide) rfl) hN 0 rfl rfl) rfl rfl hl.1 rfl (lv_room (Nat.le_of_ble_eq_true rfl)) dX8_fill_18 ⟨Nat.le_of_ble_eq_true rfl, Nat.le_of_ble_eq_true rfl⟩) hP hD hK hS hA [0, 2, 3] [1, 4] rfl rfl (by decide) (by decide) (fun u H locs hw hP hD hK hS => ?_)
    obtain ⟨z2, f3⟩ := u
    have b4 := hw
    have hP : va_P (dC, dI) vwCl [(a1, .inr (4, [.int k8, g9, g10, g11, g12, .int k13, g14, g15, g16, .ref a6, g17, g18, g19, g20, g21, g22, g23, g24])), (a6, .inl (cB29, 5, .inl f30)), (a0, .inr (6, [.ref a4, .ref a5, .int z2])), (a4, .inl (cB25, 5, .inl f26)), (a5, .inl (cB27, 5, .inl f3))] H := hP
    have hD : va_D A [(a1, .inr (4, [.int k8, g9, g10, g11, g12, .int k13, g14, g15, g16, .ref a6, g17, g18, g19, g20, g21, g22, g23, g24])), (a6, .inl (cB29, 5, .inl f30)), (a0, .inr (6, [.ref a4, .ref a5, .int z2])), (a4, .inl (cB25, 5, .inl f26)), (a5, .inl (cB27, 5, .inl f3))] := hD
    have hK : va_K (dC, dI) vwCl [(cB25, .int), (cB27, .int), (cB29, .int)] s := hK
    have hP9 := hP.sub (ws' := [(a0, .inr (6, [.ref a4, .ref a5, .int z2])), (a1, .inr (4, [.int k8, g9, g10, g11, g12, .int k13, g14, g15, g16, .ref a6, g17, g18, g19, g20, g21, g22, g23, g24])), (a4, .inl (cB25, 5, .inl f26)), (a5, .inl (cB27, 5, .inl f3)), (a6, .inl (cB29, 5, .inl f30))]) [2, 0, 3, 4, 1] rfl
    have hD9 := hD.sub (ws' := [(a0, .inr (6, [.ref a4, .ref a5, .int z2])), (a1, .inr (4, [.int k8, g9, g10, g11, g12, .int k13, g14, g15, g16, .ref a6, g17, g18, g19, g20, g21, g22, g23, g24])), (a4, .inl (cB25, 5, .inl f26)), (a5, .inl (cB27, 5, .inl f3)), (a6, .inl (cB29, 5, .inl f30))]) [2, 0, 3, 4, 1] (by decide) rfl
    have hK9 := hK.sub (tys' := []) [] rfl
    exact W.vret hx hb hr (fun t ht hW => ⟨⟨(z2, f26, f3), rfl, trivial, by rw [ht]; exact hP9, va_K.moved hW.alike hK9, hD9⟩, hS.F ht⟩) hS.2.2 dX8_fill_21
  · simp only [fa_lt, fa_le, fa_eq, ltv_0] at c1
    refine lv_iload_n hx hb dX8_fill_8 rfl (lv_at hl 2 rfl) ?_
    refine lv_aload_n hx hb dX8_fill_9 rfl (lv_at hl 0 rfl) ?_
    refine va_get (D := (dC, dI)) (ci := 6) (v := .ref a4) (C := RX8) (T := TX8) (N := 3) hx hb hts iX8_fill_s0_X8 hown hK hP 0 rfl rfl 0 (by decide) (hts (.fieldLink RX8 9 "HookPier$Seats" "row" "[I") (List.mem_of_getElem? (i := 8) rfl)) (fun _ h9 => h9) rfl dX8_fill_10 ?_
    refine va_alen (v := 5) hx hb hK hP 2 0 rfl rfl rfl dX8_fill_13 ?_
    refine lv_icmp_lt (tgt := 22) hx hb dX8_fill_14 (by decide) (fun _ => ?_) (fun c5 => absurd c5 (by decide))
    refine lv_iload_n hx hb dX8_fill_22 rfl (lv_at hl 3 rfl) ?_
    refine lv_iload_n hx hb dX8_fill_23 rfl (lv_at hl 2 rfl) ?_
    refine lv_ishr hx hb dX8_fill_24 ?_
    refine lv_topi (fun z6 ez6 => ?_)
    clear ez6
    refine lv_iconst (v := 1) hx hb dX8_fill_25 (by decide) ?_
    refine lv_iand hx hb dX8_fill_26 ?_
    refine lv_topi (fun z7 ez7 => ?_)
    clear ez7
    refine lv_if_ne (tgt := 49) hx hb dX8_fill_27 (by decide) (fun c8 => ?_) (fun c8 => ?_)
    · simp only [fa_lt, fa_le, fa_eq, ltv_0] at c8
      refine lv_iconst (v := 0) hx hb dX8_fill_49 (by decide) ?_
      refine lv_istore (lv' := [(5, .int 0), (0, .ref a0), (1, .ref a1), (2, .int 0), (3, .int k2), (4, .int k3)]) hx hb dX8_fill_50 hl (by decide) rfl (fun ls hl => ?_)
      have L52_110 : ∀ (n : Nat) (z106 : Int32) (z107 : Int32) (f108 : Nat → Int32) (f109 : Nat → Int32) (H : Heap) (locs : List Loc) (ls : Array Slot), (0 ≤ z106.toInt ∧ z106.toInt ≤ 8) → 8 - z106.toInt < (n : Int) → va_P (dC, dI) vwCl [(a0, .inr (6, [.ref a4, .ref a5, .int z107])), (a1, .inr (4, [.int k8, g9, g10, g11, g12, .int k13, g14, g15, g16, .ref a6, g17, g18, g19, g20, g21, g22, g23, g24])), (a4, .inl (cB25, 5, .inl f108)), (a5, .inl (cB27, 5, .inl f109)), (a6, .inl (cB29, 5, .inl f30))] H → va_D A [(a0, .inr (6, [.ref a4, .ref a5, .int z107])), (a1, .inr (4, [.int k8, g9, g10, g11, g12, .int k13, g14, g15, g16, .ref a6, g17, g18, g19, g20, g21, g22, g23, g24])), (a4, .inl (cB25, 5, .inl f108)), (a5, .inl (cB27, 5, .inl f109)), (a6, .inl (cB29, 5, .inl f30))] → va_S A s.heap H locs → lv_has ls 6 [(5, .int z106), (0, .ref a0), (1, .ref a1), (2, .int 0), (3, .int k2), (4, .int k3)] → W p l e (headSpec vX8_fill_s0 { frames := 7, cells := 0, slots := 0, locals := 185 }).room s m ([.ref a0, .ref a1, .int 0, .int k2, .int k3]).toArray below meth c H locs 0 0 (MQ below (va_Qv (S := Int32 × (Nat → Int32) × (Nat → Int32)) (fun u => True) (fun u t => BC (dC, dI) A [(a0, .inr (6, [.ref a4, .ref a5, .int (u.1)])), (a1, .inr (4, [.int k8, g9, g10, g11, g12, .int k13, g14, g15, g16, .ref a6, g17, g18, g19, g20, g21, g22, g23, g24])), (a4, .inl (cB25, 5, .inl (u.2.1))), (a5, .inl (cB27, 5, .inl (u.2.2))), (a6, .inl (cB29, 5, .inl f30))] [] t) A) ([.ref a0, .ref a1, .int 0, .int k2, .int k3]).toArray s 0 0 A) (F0 m 52 ls []) := by
        intro n
        induction n with
        | zero =>
          intro z106 z107 f108 f109 H locs ls b52_0 hm _ _ _ _
          exact absurd hm (by omega)
        | succ n ih52 =>
          intro z106 z107 f108 f109 H locs ls b52_0 hm52 hP hD hS hl
          refine lv_iload hx hb dX8_fill_52 (lv_at hl 0 rfl) ?_
          refine lv_aload_n hx hb dX8_fill_54 rfl (lv_at hl 2 rfl) ?_
          refine va_get (D := (dC, dI)) (ci := 4) (v := .int k8) (C := RX6) (T := TX6) (N := 18) hx hb hts iX8_fill_s0_X6 hown hK hP 1 rfl rfl 0 (by decide) (hts (.fieldLink RX8 34 "HookPier$Plan" "spots" "I") (List.mem_of_getElem? (i := 14) rfl)) (fun _ h9 => h9) rfl dX8_fill_55 ?_
          refine lv_icmp_ge (tgt := 106) hx hb dX8_fill_58 (by decide) (fun c111 => ?_) (fun c111 => ?_)
          · simp only [fa_lt, fa_le, fa_eq, ltv_0] at c111
            have hP9 := hP.sub (ws' := [(a0, .inr (6, [.ref a4, .ref a5, .int z107])), (a1, .inr (4, [.int k8, g9, g10, g11, g12, .int k13, g14, g15, g16, .ref a6, g17, g18, g19, g20, g21, g22, g23, g24])), (a4, .inl (cB25, 5, .inl f108)), (a5, .inl (cB27, 5, .inl f109)), (a6, .inl (cB29, 5, .inl f30))]) [0, 1, 2, 3, 4] rfl
            have hD9 := hD.sub (ws' := [(a0, .inr (6, [.ref a4, .ref a5, .int z107])), (a1, .inr (4, [.int k8, g9, g10, g11, g12, .int k13, g14, g15, g16, .ref a6, g17, g18, g19, g20, g21, g22, g23, g24])), (a4, .inl (cB25, 5, .inl f108)), (a5, .inl (cB27, 5, .inl f109)), (a6, .inl (cB29, 5, .inl f30))]) [0, 1, 2, 3, 4] (by decide) rfl
            have hK9 := hK.sub (tys' := []) [] rfl
            exact W.vret hx hb hr (fun t ht hW => ⟨⟨(z107, f108, f109), rfl, trivial, by rw [ht]; exact hP9, va_K.moved hW.alike hK9, hD9⟩, hS.F ht⟩) hS.2.2 dX8_fill_106
          · simp only [fa_lt, fa_le, fa_eq, ltv_0] at c111
            refine lv_aload_n hx hb dX8_fill_61 rfl (lv_at hl 1 rfl) ?_
            refine va_get (D := (dC, dI)) (ci := 6) (v := .int z107) (C := RX8) (T := TX8) (N := 3) hx hb hts iX8_fill_s0_X8 hown hK hP 0 rfl rfl 2 (by decide) (hts (.fieldLink RX8 18 "HookPier$Seats" "found" "I") (List.mem_of_getElem? (i := 7) rfl)) (fun _ h9 => h9) rfl dX8_fill_62 ?_
            refine lv_iload hx hb dX8_fill_65 (lv_at hl 5 rfl) ?_
            refine lv_icmp_ge (tgt := 106) hx hb dX8_fill_67 (by decide) (fun c112 => ?_) (fun c112 => ?_)
            · simp only [fa_lt, fa_le, fa_eq, ltv_0] at c112
              have hP9 := hP.sub (ws' := [(a0, .inr (6, [.ref a4, .ref a5, .int z107])), (a1, .inr (4, [.int k8, g9, g10, g11, g12, .int k13, g14, g15, g16, .ref a6, g17, g18, g19, g20, g21, g22, g23, g24])), (a4, .inl (cB25, 5, .inl f108)), (a5, .inl (cB27, 5, .inl f109)), (a6, .inl (cB29, 5, .inl f30))]) [0, 1, 2, 3, 4] rfl
              have hD9 := hD.sub (ws' := [(a0, .inr (6, [.ref a4, .ref a5, .int z107])), (a1, .inr (4, [.int k8, g9, g10, g11, g12, .int k13, g14, g15, g16, .ref a6, g17, g18, g19, g20, g21, g22, g23, g24])), (a4, .inl (cB25, 5, .inl f108)), (a5, .inl (cB27, 5, .inl f109)), (a6, .inl (cB29, 5, .inl f30))]) [0, 1, 2, 3, 4] (by decide) rfl
              have hK9 := hK.sub (tys' := []) [] rfl
              exact W.vret hx hb hr (fun t ht hW => ⟨⟨(z107, f108, f109), rfl, trivial, by rw [ht]; exact hP9, va_K.moved hW.alike hK9, hD9⟩, hS.F ht⟩) hS.2.2 dX8_fill_106
            · simp only [fa_lt, fa_le, fa_eq, ltv_0] at c112
              refine lv_aload_n hx hb dX8_fill_70 rfl (lv_at hl 1 rfl) ?_
              refine lv_aload_n hx hb dX8_fill_71 rfl (lv_at hl 2 rfl) ?_
              refine lv_iload_n hx hb dX8_fill_72 rfl (lv_at hl 3 rfl) ?_
              refine lv_iload hx hb dX8_fill_73 (lv_at hl 0 rfl) ?_
              refine cl_i (wc := [(a0, .inr (6, [.ref a4, .ref a5, .int z107])), (a1, .inr (4, [.int k8, g9, g10, g11, g12, .int k13, g14, g15, g16, .ref a6, g17, g18, g19, g20, g21, g22, g23, g24])), (a4, .inl (cB25, 5, .inl f108)), (a6, .inl (cB29, 5, .inl f30))]) (wr := [(a5, .inl (cB27, 5, .inl f109))]) (va_runV (As := [.ref a1, .int 0, .int z106]) (rest := []) ⟨hx, hb, hml, hown, hts⟩ (kX8_isFree l dC dI a0 a1 0 z106 a4 a6 (.ref a5) (.int z107) (.int k8) (g9) (g10) (g11) (g12) (.int k13) (g14) (g15) (g16) (g17) (g18) (g19) (g20) (g21) (g22) (g23) (g24) cB25 f108 cB29 f30 (by first | omega | (simp only [ltv_0]; omega)) H.size) (cwV 3 hts gX8_fill_s0_1 rfl rfl rfl (by decide +kernel) ⟨Nat.le_of_ble_eq_true rfl, Nat.le_of_ble_eq_true rfl⟩) (PV (hP.sub (ws' := [(a0, .inr (6, [.ref a4, .ref a5, .int z107])), (a1, .inr (4, [.int k8, g9, g10, g11, g12, .int k13, g14, g15, g16, .ref a6, g17, g18, g19, g20, g21, g22, g23, g24])), (a4, .inl (cB25, 5, .inl f108)), (a6, .inl (cB29, 5, .inl f30))]) [0, 1, 2, 4] rfl) (hK.sub (tys' := [(cB25, .int), (cB29, .int)]) [0, 2] rfl) (hD.sub (ws' := [(a0, .inr (6, [.ref a4, .ref a5, .int z107])), (a1, .inr (4, [.int k8, g9, g10, g11, g12, .int k13, g14, g15, g16, .ref a6, g17, g18, g19, g20, g21, g22, g23, g24])), (a4, .inl (cB25, 5, .inl f108)), (a6, .inl (cB29, 5, .inl f30))]) [0, 1, 2, 4] (by decide) rfl) hN 0 rfl rfl) rfl rfl hl.1 rfl (lv_room (Nat.le_of_ble_eq_true rfl)) dX8_fill_75 ⟨Nat.le_of_ble_eq_true rfl, Nat.le_of_ble_eq_true rfl⟩) hP hD hK hS hA [0, 1, 2, 4] [3] rfl rfl (by decide) (by decide) (fun z113 _u H locs hw hP hD hK hS => ?_)
              have b114 := hw
              have hP : va_P (dC, dI) vwCl [(a5, .inl (cB27, 5, .inl f109)), (a0, .inr (6, [.ref a4, .ref a5, .int z107])), (a1, .inr (4, [.int k8, g9, g10, g11, g12, .int k13, g14, g15, g16, .ref a6, g17, g18, g19, g20, g21, g22, g23, g24])), (a4, .inl (cB25, 5, .inl f108)), (a6, .inl (cB29, 5, .inl f30))] H := hP
              have hD : va_D A [(a5, .inl (cB27, 5, .inl f109)), (a0, .inr (6, [.ref a4, .ref a5, .int z107])), (a1, .inr (4, [.int k8, g9, g10, g11, g12, .int k13, g14, g15, g16, .ref a6, g17, g18, g19, g20, g21, g22, g23, g24])), (a4, .inl (cB25, 5, .inl f108)), (a6, .inl (cB29, 5, .inl f30))] := hD
              have hK : va_K (dC, dI) vwCl [(cB25, .int), (cB27, .int), (cB29, .int)] s := hK
              refine lv_if_eq (tgt := 100) hx hb dX8_fill_78 (by decide) (fun c115 => ?_) (fun c115 => ?_)
              · simp only [fa_lt, fa_le, fa_eq, ltv_0] at c115
                obtain ⟨z116, ez116⟩ : ∃ y : Int32, y = z106 + 1 := ⟨_, rfl⟩
                have tz116 : z116.toInt = z106.toInt + 1 := by rw [ez116, iadd_t (by simp only [ltv_1]; omega) (by simp only [ltv_1]; omega)]; simp only [ltv_1]
                refine lv_iinc (v := z116) (lv' := [(5, .int z116), (0, .ref a0), (1, .ref a1), (2, .int 0), (3, .int k2), (4, .int k3)]) hx hb dX8_fill_100 hl (k := 0) rfl (by rw [ez116]; rfl) (by decide) rfl (fun ls hl => ?_)
                refine lv_goto (tgt := 52) hx hb dX8_fill_103 (by decide) ?_
                exact ih52 z116 z107 f108 f109 H locs ls (by first | omega | (simp only [ltv_0]; omega)) (by first | omega | (simp only [ltv_0]; omega)) (hP.sub (ws' := [(a0, .inr (6, [.ref a4, .ref a5, .int z107])), (a1, .inr (4, [.int k8, g9, g10, g11, g12, .int k13, g14, g15, g16, .ref a6, g17, g18, g19, g20, g21, g22, g23, g24])), (a4, .inl (cB25, 5, .inl f108)), (a5, .inl (cB27, 5, .inl f109)), (a6, .inl (cB29, 5, .inl f30))]) [1, 2, 3, 0, 4] rfl) (hD.sub (ws' := [(a0, .inr (6, [.ref a4, .ref a5, .int z107])), (a1, .inr (4, [.int k8, g9, g10, g11, g12, .int k13, g14, g15, g16, .ref a6, g17, g18, g19, g20, g21, g22, g23, g24])), (a4, .inl (cB25, 5, .inl f108)), (a5, .inl (cB27, 5, .inl f109)), (a6, .inl (cB29, 5, .inl f30))]) [1, 2, 3, 0, 4] (by decide) rfl) hS (lv_sub hl [0, 1, 2, 3, 4, 5] rfl)
              · simp only [fa_lt, fa_le, fa_eq, ltv_0] at c115
                refine lv_aload_n hx hb dX8_fill_81 rfl (lv_at hl 1 rfl) ?_
                refine va_get (D := (dC, dI)) (ci := 6) (v := .ref a4) (C := RX8) (T := TX8) (N := 3) hx hb hts iX8_fill_s0_X8 hown hK hP 1 rfl rfl 0 (by decide) (hts (.fieldLink RX8 9 "HookPier$Seats" "row" "[I") (List.mem_of_getElem? (i := 8) rfl)) (fun _ h9 => h9) rfl dX8_fill_82 ?_
                refine lv_iload_n hx hb dX8_fill_85 rfl (lv_at hl 3 rfl) ?_
                refine lv_iload hx hb dX8_fill_86 (lv_at hl 0 rfl) ?_
                refine va_iast hx hb hK hP hD hS 3 0 rfl rfl (by unfold vp_in; decide) dX8_fill_88 (fun H locs hP hD hS => ?_)
                have hP : va_P (dC, dI) vwCl [(a5, .inl (cB27, 5, .inl f109)), (a0, .inr (6, [.ref a4, .ref a5, .int z107])), (a1, .inr (4, [.int k8, g9, g10, g11, g12, .int k13, g14, g15, g16, .ref a6, g17, g18, g19, g20, g21, g22, g23, g24])), (a4, .inl (cB25, 5, .inl (upd f108 (0 : Int32).toNatClampNeg z106))), (a6, .inl (cB29, 5, .inl f30))] H := hP
                have hD : va_D A [(a5, .inl (cB27, 5, .inl f109)), (a0, .inr (6, [.ref a4, .ref a5, .int z107])), (a1, .inr (4, [.int k8, g9, g10, g11, g12, .int k13, g14, g15, g16, .ref a6, g17, g18, g19, g20, g21, g22, g23, g24])), (a4, .inl (cB25, 5, .inl (upd f108 (0 : Int32).toNatClampNeg z106))), (a6, .inl (cB29, 5, .inl f30))] := hD
                generalize upd f108 (0 : Int32).toNatClampNeg z106 = f117 at hP hD
                refine lv_aload_n hx hb dX8_fill_89 rfl (lv_at hl 1 rfl) ?_
                refine lv_aload_n hx hb dX8_fill_90 rfl (lv_at hl 2 rfl) ?_
                refine lv_iload_n hx hb dX8_fill_91 rfl (lv_at hl 3 rfl) ?_
                refine lv_iconst (v := 1) hx hb dX8_fill_92 (by decide) ?_
                refine lv_iadd hx hb dX8_fill_93 ?_
                refine lv_topi (fun z118 ez118 => ?_)
                obtain rfl : z118 = 1 := ez118.trans (by decide)
                refine lv_iload_n hx hb dX8_fill_94 rfl (lv_at hl 4 rfl) ?_
                refine lv_iload hx hb dX8_fill_95 (lv_at hl 5 rfl) ?_
                refine cl_v (wc := [(a0, .inr (6, [.ref a4, .ref a5, .int z107])), (a1, .inr (4, [.int k8, g9, g10, g11, g12, .int k13, g14, g15, g16, .ref a6, g17, g18, g19, g20, g21, g22, g23, g24])), (a4, .inl (cB25, 5, .inl f117)), (a5, .inl (cB27, 5, .inl f109)), (a6, .inl (cB29, 5, .inl f30))]) (wr := []) (va_runV (As := [.ref a1, .int 1, .int k2, .int k3]) (rest := []) ⟨hx, hb, hml, hown, hts⟩ (kX8_fill_s1 l dC dI a0 a1 k2 k3 a4 a5 a6 z107 k8 (g9) (g10) (g11) (g12) k13 (g14) (g15) (g16) (g17) (g18) (g19) (g20) (g21) (g22) (g23) (g24) cB25 f117 cB27 f109 cB29 f30 (by first | omega | (simp only [ltv_0, ltv_1]; omega)) (by first | omega | (simp only [ltv_0, ltv_1]; omega)) H.size) (cwV 4 hts gX8_fill_s0_2 rfl rfl rfl (by decide +kernel) ⟨Nat.le_of_ble_eq_true rfl, Nat.le_of_ble_eq_true rfl⟩) (PV (hP.sub (ws' := [(a0, .inr (6, [.ref a4, .ref a5, .int z107])), (a1, .inr (4, [.int k8, g9, g10, g11, g12, .int k13, g14, g15, g16, .ref a6, g17, g18, g19, g20, g21, g22, g23, g24])), (a4, .inl (cB25, 5, .inl f117)), (a5, .inl (cB27, 5, .inl f109)), (a6, .inl (cB29, 5, .inl f30))]) [1, 2, 3, 0, 4] rfl) (hK.sub (tys' := [(cB25, .int), (cB27, .int), (cB29, .int)]) [0, 1, 2] rfl) (hD.sub (ws' := [(a0, .inr (6, [.ref a4, .ref a5, .int z107])), (a1, .inr (4, [.int k8, g9, g10, g11, g12, .int k13, g14, g15, g16, .ref a6, g17, g18, g19, g20, g21, g22, g23, g24])), (a4, .inl (cB25, 5, .inl f117)), (a5, .inl (cB27, 5, .inl f109)), (a6, .inl (cB29, 5, .inl f30))]) [1, 2, 3, 0, 4] (by decide) rfl) hN 0 rfl rfl) rfl rfl hl.1 rfl (lv_room (Nat.le_of_ble_eq_true rfl)) dX8_fill_97 ⟨Nat.le_of_ble_eq_true rfl, Nat.le_of_ble_eq_true rfl⟩) hP hD hK hS hA [1, 2, 3, 0, 4] [] rfl rfl (by decide) (by decide) (fun u H locs hw hP hD hK hS => ?_)
                obtain ⟨z119, f120, f121⟩ := u
                have b122 := hw
                have hP : va_P (dC, dI) vwCl [(a0, .inr (6, [.ref a4, .ref a5, .int z119])), (a1, .inr (4, [.int k8, g9, g10, g11, g12, .int k13, g14, g15, g16, .ref a6, g17, g18, g19, g20, g21, g22, g23, g24])), (a4, .inl (cB25, 5, .inl f120)), (a5, .inl (cB27, 5, .inl f121)), (a6, .inl (cB29, 5, .inl f30))] H := hP
                have hD : va_D A [(a0, .inr (6, [.ref a4, .ref a5, .int z119])), (a1, .inr (4, [.int k8, g9, g10, g11, g12, .int k13, g14, g15, g16, .ref a6, g17, g18, g19, g20, g21, g22, g23, g24])), (a4, .inl (cB25, 5, .inl f120)), (a5, .inl (cB27, 5, .inl f121)), (a6, .inl (cB29, 5, .inl f30))] := hD
                have hK : va_K (dC, dI) vwCl [(cB25, .int), (cB27, .int), (cB29, .int)] s := hK
                obtain ⟨z123, ez123⟩ : ∃ y : Int32, y = z106 + 1 := ⟨_, rfl⟩
                have tz123 : z123.toInt = z106.toInt + 1 := by rw [ez123, iadd_t (by simp only [ltv_1]; omega) (by simp only [ltv_1]; omega)]; simp only [ltv_1]
                refine lv_iinc (v := z123) (lv' := [(5, .int z123), (0, .ref a0), (1, .ref a1), (2, .int 0), (3, .int k2), (4, .int k3)]) hx hb dX8_fill_100 hl (k := 0) rfl (by rw [ez123]; rfl) (by decide) rfl (fun ls hl => ?_)
                refine lv_goto (tgt := 52) hx hb dX8_fill_103 (by decide) ?_
                exact ih52 z123 z119 f120 f121 H locs ls (by first | omega | (simp only [ltv_0]; omega)) (by first | omega | (simp only [ltv_0]; omega)) hP hD hS (lv_sub hl [0, 1, 2, 3, 4, 5] rfl)
      exact L52_110 9 (0) k7 f26 f28 s.heap _ ls (by first | omega | (simp only [ltv_0]; omega)) (by first | omega | (simp only [ltv_0]; omega)) hP hD hS (lv_sub hl [0, 1, 2, 3, 4, 5] rfl)
    · simp only [fa_lt, fa_le, fa_eq, ltv_0] at c8
      refine lv_aload_n hx hb dX8_fill_30 rfl (lv_at hl 0 rfl) ?_
      refine va_get (D := (dC, dI)) (ci := 6) (v := .ref a4) (C := RX8) (T := TX8) (N := 3) hx hb hts iX8_fill_s0_X8 hown hK hP 0 rfl rfl 0 (by decide) (hts (.fieldLink RX8 9 "HookPier$Seats" "row" "[I") (List.mem_of_getElem? (i := 8) rfl)) (fun _ h9 => h9) rfl dX8_fill_31 ?_
      refine lv_iload_n hx hb dX8_fill_34 rfl (lv_at hl 2 rfl) ?_
      refine lv_iconst (v := (-1)) hx hb dX8_fill_35 (by decide) ?_
      refine va_iast hx hb hK hP hD hS 2 0 rfl rfl (by unfold vp_in; decide) dX8_fill_36 (fun H locs hP hD hS => ?_)
      have hP : va_P (dC, dI) vwCl [(a0, .inr (6, [.ref a4, .ref a5, .int k7])), (a1, .inr (4, [.int k8, g9, g10, g11, g12, .int k13, g14, g15, g16, .ref a6, g17, g18, g19, g20, g21, g22, g23, g24])), (a4, .inl (cB25, 5, .inl (upd f26 (0 : Int32).toNatClampNeg (-1)))), (a5, .inl (cB27, 5, .inl f28)), (a6, .inl (cB29, 5, .inl f30))] H := hP
      have hD : va_D A [(a0, .inr (6, [.ref a4, .ref a5, .int k7])), (a1, .inr (4, [.int k8, g9, g10, g11, g12, .int k13, g14, g15, g16, .ref a6, g17, g18, g19, g20, g21, g22, g23, g24])), (a4, .inl (cB25, 5, .inl (upd f26 (0 : Int32).toNatClampNeg (-1)))), (a5, .inl (cB27, 5, .inl f28)), (a6, .inl (cB29, 5, .inl f30))] := hD
      generalize upd f26 (0 : Int32).toNatClampNeg (-1) = f124 at hP hD
      refine lv_aload_n hx hb dX8_fill_37 rfl (lv_at hl 0 rfl) ?_
      refine lv_aload_n hx hb dX8_fill_38 rfl (lv_at hl 1 rfl) ?_
      refine lv_iload_n hx hb dX8_fill_39 rfl (lv_at hl 2 rfl) ?_
      refine lv_iconst (v := 1) hx hb dX8_fill_40 (by decide) ?_
      refine lv_iadd hx hb dX8_fill_41 ?_
      refine lv_topi (fun z125 ez125 => ?_)
      obtain rfl : z125 = 1 := ez125.trans (by decide)
      refine lv_iload_n hx hb dX8_fill_42 rfl (lv_at hl 3 rfl) ?_
      refine lv_iload hx hb dX8_fill_43 (lv_at hl 4 rfl) ?_
      refine cl_v (wc := [(a0, .inr (6, [.ref a4, .ref a5, .int k7])), (a1, .inr (4, [.int k8, g9, g10, g11, g12, .int k13, g14, g15, g16, .ref a6, g17, g18, g19, g20, g21, g22, g23, g24])), (a4, .inl (cB25, 5, .inl f124)), (a5, .inl (cB27, 5, .inl f28)), (a6, .inl (cB29, 5, .inl f30))]) (wr := []) (va_runV (As := [.ref a1, .int 1, .int k2, .int k3]) (rest := []) ⟨hx, hb, hml, hown, hts⟩ (kX8_fill_s1 l dC dI a0 a1 k2 k3 a4 a5 a6 k7 k8 (g9) (g10) (g11) (g12) k13 (g14) (g15) (g16) (g17) (g18) (g19) (g20) (g21) (g22) (g23) (g24) cB25 f124 cB27 f28 cB29 f30 (by first | omega | (simp only [ltv_0, ltv_1]; omega)) (by first | omega | (simp only [ltv_0, ltv_1]; omega)) H.size) (cwV 4 hts gX8_fill_s0_2 rfl rfl rfl (by decide +kernel) ⟨Nat.le_of_ble_eq_true rfl, Nat.le_of_ble_eq_true rfl⟩) (PV (hP.sub (ws' := [(a0, .inr (6, [.ref a4, .ref a5, .int k7])), (a1, .inr (4, [.int k8, g9, g10, g11, g12, .int k13, g14, g15, g16, .ref a6, g17, g18, g19, g20, g21, g22, g23, g24])), (a4, .inl (cB25, 5, .inl f124)), (a5, .inl (cB27, 5, .inl f28)), (a6, .inl (cB29, 5, .inl f30))]) [0, 1, 2, 3, 4] rfl) (hK.sub (tys' := [(cB25, .int), (cB27, .int), (cB29, .int)]) [0, 1, 2] rfl) (hD.sub (ws' := [(a0, .inr (6, [.ref a4, .ref a5, .int k7])), (a1, .inr (4, [.int k8, g9, g10, g11, g12, .int k13, g14, g15, g16, .ref a6, g17, g18, g19, g20, g21, g22, g23, g24])), (a4, .inl (cB25, 5, .inl f124)), (a5, .inl (cB27, 5, .inl f28)), (a6, .inl (cB29, 5, .inl f30))]) [0, 1, 2, 3, 4] (by decide) rfl) hN 0 rfl rfl) rfl rfl hl.1 rfl (lv_room (Nat.le_of_ble_eq_true rfl)) dX8_fill_45 ⟨Nat.le_of_ble_eq_true rfl, Nat.le_of_ble_eq_true rfl⟩) hP hD hK hS hA [0, 1, 2, 3, 4] [] rfl rfl (by decide) (by decide) (fun u H locs hw hP hD hK hS => ?_)
      obtain ⟨z126, f127, f128⟩ := u
      have b129 := hw
      have hP : va_P (dC, dI) vwCl [(a0, .inr (6, [.ref a4, .ref a5, .int z126])), (a1, .inr (4, [.int k8, g9, g10, g11, g12, .int k13, g14, g15, g16, .ref a6, g17, g18, g19, g20, g21, g22, g23, g24])), (a4, .inl (cB25, 5, .inl f127)), (a5, .inl (cB27, 5, .inl f128)), (a6, .inl (cB29, 5, .inl f30))] H := hP
      have hD : va_D A [(a0, .inr (6, [.ref a4, .ref a5, .int z126])), (a1, .inr (4, [.int k8, g9, g10, g11, g12, .int k13, g14, g15, g16, .ref a6, g17, g18, g19, g20, g21, g22, g23, g24])), (a4, .inl (cB25, 5, .inl f127)), (a5, .inl (cB27, 5, .inl f128)), (a6, .inl (cB29, 5, .inl f30))] := hD
      have hK : va_K (dC, dI) vwCl [(cB25, .int), (cB27, .int), (cB29, .int)] s := hK
      have hP9 := hP.sub (ws' := [(a0, .inr (6, [.ref a4, .ref a5, .int z126])), (a1, .inr (4, [.int k8, g9, g10, g11, g12, .int k13, g14, g15, g16, .ref a6, g17, g18, g19, g20, g21, g22, g23, g24])), (a4, .inl (cB25, 5, .inl f127)), (a5, .inl (cB27, 5, .inl f128)), (a6, .inl (cB29, 5, .inl f30))]) [0, 1, 2, 3, 4] rfl
      have hD9 := hD.sub (ws' := [(a0, .inr (6, [.ref a4, .ref a5, .int z126])), (a1, .inr (4, [.int k8, g9, g10, g11, g12, .int k13, g14, g15, g16, .ref a6, g17, g18, g19, g20, g21, g22, g23, g24])), (a4, .inl (cB25, 5, .inl f127)), (a5, .inl (cB27, 5, .inl f128)), (a6, .inl (cB29, 5, .inl f30))]) [0, 1, 2, 3, 4] (by decide) rfl
      have hK9 := hK.sub (tys' := []) [] rfl
      exact W.vret hx hb hr (fun t ht hW => ⟨⟨(z126, f127, f128), rfl, trivial, by rw [ht]; exact hP9, va_K.moved hW.alike hK9, hD9⟩, hS.F ht⟩) hS.2.2 dX8_fill_48
theorem dX8_countRows_0 : decode cX8_countRows 0 = .ok (.aload_n 0, 1) := by decide +kernel
theorem dX8_countRows_1 : decode cX8_countRows 1 = .ok (.iconst 0, 1) := by decide +kernel
theorem dX8_countRows_10 : decode cX8_countRows 10 = .ok (.invokevirtual 22, 3) := by decide +kernel
theorem dX8_countRows_13 : decode cX8_countRows 13 = .ok (.aload_n 0, 1) := by decide +kernel
theorem dX8_countRows_14 : decode cX8_countRows 14 = .ok (.getfield 18, 3) := by decide +kernel
theorem dX8_countRows_17 : decode cX8_countRows 17 = .ok (.ireturn, 1) := by decide +kernel
theorem dX8_countRows_2 : decode cX8_countRows 2 = .ok (.putfield 18, 3) := by decide +kernel
theorem dX8_countRows_5 : decode cX8_countRows 5 = .ok (.aload_n 0, 1) := by decide +kernel
theorem dX8_countRows_6 : decode cX8_countRows 6 = .ok (.aload_n 1, 1) := by decide +kernel
theorem dX8_countRows_7 : decode cX8_countRows 7 = .ok (.iconst 0, 1) := by decide +kernel
theorem dX8_countRows_8 : decode cX8_countRows 8 = .ok (.iload_n 2, 1) := by decide +kernel
theorem dX8_countRows_9 : decode cX8_countRows 9 = .ok (.iload_n 3, 1) := by decide +kernel
def vX8_countRows : List Cond := .code yX8_countRows cX8_countRows 4 (some .int) :: ([.fieldLink RX8 18 "HookPier$Seats" "found" "I", .methodLink RX8 22 yX8_fill, .instanceMethod yX8_fill, .selects RX8 yX8_fill yX8_fill, .initialized RX8, .code yX8_fill cX8_fill 6 none, .fieldLink RX8 26 "HookPier$Plan" "askers" "I", .methodLink RX8 31 yX8_keepRow, .instanceMethod yX8_keepRow, .selects RX8 yX8_keepRow yX8_keepRow, .code yX8_keepRow cX8_keepRow 1 none, .fieldLink RX8 9 "HookPier$Seats" "row" "[I", .fieldLink RX8 15 "HookPier$Seats" "first" "[I", .methodLink RX8 41 arraycopyName, .native arraycopyName, .static arraycopyName, .initialized "java/lang/System", .fieldLink RX8 34 "HookPier$Plan" "spots" "I", .methodLink RX8 37 yX8_isFree, .instanceMethod yX8_isFree, .selects RX8 yX8_isFree yX8_isFree, .code yX8_isFree cX8_isFree 5 (some .boolean), .methodLink RX8 47 yX6_isTangle, .instanceMethod yX6_isTangle, .selects RX6 yX6_isTangle yX6_isTangle, .initialized RX6, .code yX6_isTangle cX6_isTangle 5 (some .boolean), .methodLink RX6 89 Lib.Math.abs.name, .static Lib.Math.abs.name, .initialized "java/lang/Math", .code Lib.Math.abs.name Lib.Math.abs.code 1 (some .int), .fieldLink RX6 39 "HookPier$Plan" "reach" "[I"] ++ wsX80 ++ wsX60)
theorem iX8_countRows_X8 : ∀ w ∈ wsX80, w ∈ vX8_countRows := fun _ h => List.mem_cons_of_mem _ (List.mem_append_left _ (List.mem_append_right _ h))
theorem iX8_countRows_X6 : ∀ w ∈ wsX60, w ∈ vX8_countRows := fun _ h => List.mem_cons_of_mem _ (List.mem_append_right _ h)
set_option maxRecDepth 20000 in
theorem gX8_countRows_0 : GoodIn vX8_countRows (wsV RX8 22 RX8 yX8_fill vX8_fill_s0) := goodIn_app (goodIn_r [.methodLink RX8 22 yX8_fill, .instanceMethod yX8_fill, .selects RX8 yX8_fill yX8_fill, .initialized RX8] [2, 3, 4, 5] (by decide +kernel) (by decide +kernel)) (goodIn_ca (goodIn_ca (goodIn_r (.code yX8_fill cX8_fill 6 none :: [.fieldLink RX8 26 "HookPier$Plan" "askers" "I", .methodLink RX8 31 yX8_keepRow, .instanceMethod yX8_keepRow, .selects RX8 yX8_keepRow yX8_keepRow, .initialized RX8, .code yX8_keepRow cX8_keepRow 1 none, .fieldLink RX8 18 "HookPier$Seats" "found" "I", .fieldLink RX8 9 "HookPier$Seats" "row" "[I", .fieldLink RX8 15 "HookPier$Seats" "first" "[I", .methodLink RX8 41 arraycopyName, .native arraycopyName, .static arraycopyName, .initialized "java/lang/System", .fieldLink RX8 34 "HookPier$Plan" "spots" "I", .methodLink RX8 37 yX8_isFree, .instanceMethod yX8_isFree, .selects RX8 yX8_isFree yX8_isFree, .code yX8_isFree cX8_isFree 5 (some .boolean), .methodLink RX8 47 yX6_isTangle, .instanceMethod yX6_isTangle, .selects RX6 yX6_isTangle yX6_isTangle, .initialized RX6, .code yX6_isTangle cX6_isTangle 5 (some .boolean), .methodLink RX6 89 Lib.Math.abs.name, .static Lib.Math.abs.name, .initialized "java/lang/Math", .code Lib.Math.abs.name Lib.Math.abs.code 1 (some .int), .fieldLink RX6 39 "HookPier$Plan" "reach" "[I", .methodLink RX8 22 yX8_fill, .instanceMethod yX8_fill, .selects RX8 yX8_fill yX8_fill, .code yX8_fill cX8_fill 6 none]) [6, 7, 8, 9, 10, 5, 11, 1, 12, 13, 14, 15, 16, 17, 18, 19, 20, 21, 22, 23, 24, 25, 26, 27, 28, 29, 30, 31, 32, 2, 3, 4, 6] (by decide +kernel) (by decide +kernel) : GoodIn vX8_countRows (.code yX8_fill cX8_fill 6 none :: [.fieldLink RX8 26 "HookPier$Plan" "askers" "I", .methodLink RX8 31 yX8_keepRow, .instanceMethod yX8_keepRow, .selects RX8 yX8_keepRow yX8_keepRow, .initialized RX8, .code yX8_keepRow cX8_keepRow 1 none, .fieldLink RX8 18 "HookPier$Seats" "found" "I", .fieldLink RX8 9 "HookPier$Seats" "row" "[I", .fieldLink RX8 15 "HookPier$Seats" "first" "[I", .methodLink RX8 41 arraycopyName, .native arraycopyName, .static arraycopyName, .initialized "java/lang/System", .fieldLink RX8 34 "HookPier$Plan" "spots" "I", .methodLink RX8 37 yX8_isFree, .instanceMethod yX8_isFree, .selects RX8 yX8_isFree yX8_isFree, .code yX8_isFree cX8_isFree 5 (some .boolean), .methodLink RX8 47 yX6_isTangle, .instanceMethod yX6_isTangle, .selects RX6 yX6_isTangle yX6_isTangle, .initialized RX6, .code yX6_isTangle cX6_isTangle 5 (some .boolean), .methodLink RX6 89 Lib.Math.abs.name, .static Lib.Math.abs.name, .initialized "java/lang/Math", .code Lib.Math.abs.name Lib.Math.abs.code 1 (some .int), .fieldLink RX6 39 "HookPier$Plan" "reach" "[I", .methodLink RX8 22 yX8_fill, .instanceMethod yX8_fill, .selects RX8 yX8_fill yX8_fill, .code yX8_fill cX8_fill 6 none])) (goodIn_sub iX8_countRows_X6 (by decide +kernel))) (goodIn_sub iX8_countRows_X8 (by decide +kernel)))
set_option maxHeartbeats 2000000 in
set_option maxRecDepth 100000 in
theorem kX8_countRows (l : Launch) (dC : Nat → ClassId) (dI : Nat → Nat → Nat) (a0 : Nat) (a1 : Nat) (k2 : Int32) (k3 : Int32) (a4 : Nat) (a5 : Nat) (a6 : Nat) (k7 : Int32) (k8 : Int32) (g9 : Value) (g10 : Value) (g11 : Value) (g12 : Value) (k13 : Int32) (g14 : Value) (g15 : Value) (g16 : Value) (g17 : Value) (g18 : Value) (g19 : Value) (g20 : Value) (g21 : Value) (g22 : Value) (g23 : Value) (g24 : Value) (cB25 : ClassId) (f26 : Nat → Int32) (cB27 : ClassId) (f28 : Nat → Int32) (cB29 : ClassId) (f30 : Nat → Int32) (hk8 : (0 ≤ k8.toInt ∧ k8.toInt ≤ 8)) (hk13 : (0 ≤ k13.toInt ∧ k13.toInt ≤ 5)) (sz : Nat) : Met l yX8_countRows vX8_countRows ({ frames := 8, cells := 0, slots := 0, locals := 210 }) (PC (dC, dI) [.ref a0, .ref a1, .int k2, .int k3] sz [(a0, .inr (6, [.ref a4, .ref a5, .int k7])), (a1, .inr (4, [.int k8, g9, g10, g11, g12, .int k13, g14, g15, g16, .ref a6, g17, g18, g19, g20, g21, g22, g23, g24])), (a4, .inl (cB25, 5, .inl f26)), (a5, .inl (cB27, 5, .inl f28)), (a6, .inl (cB29, 5, .inl f30))] [(cB25, .int), (cB27, .int), (cB29, .int)]) (va_Qi (S := Int32 × (Nat → Int32) × (Nat → Int32)) (fun (r : Int32) u => True) (fun u t => BC (dC, dI) (va_A [(a0, .inr (6, [.ref a4, .ref a5, .int k7])), (a1, .inr (4, [.int k8, g9, g10, g11, g12, .int k13, g14, g15, g16, .ref a6, g17, g18, g19, g20, g21, g22, g23, g24])), (a4, .inl (cB25, 5, .inl f26)), (a5, .inl (cB27, 5, .inl f28)), (a6, .inl (cB29, 5, .inl f30))] sz) [(a0, .inr (6, [.ref a4, .ref a5, .int (u.1)])), (a1, .inr (4, [.int k8, g9, g10, g11, g12, .int k13, g14, g15, g16, .ref a6, g17, g18, g19, g20, g21, g22, g23, g24])), (a4, .inl (cB25, 5, .inl (u.2.1))), (a5, .inl (cB27, 5, .inl (u.2.2))), (a6, .inl (cB29, 5, .inl f30))] [] t) (va_A [(a0, .inr (6, [.ref a4, .ref a5, .int k7])), (a1, .inr (4, [.int k8, g9, g10, g11, g12, .int k13, g14, g15, g16, .ref a6, g17, g18, g19, g20, g21, g22, g23, g24])), (a4, .inl (cB25, 5, .inl f26)), (a5, .inl (cB27, 5, .inl f28)), (a6, .inl (cB29, 5, .inl f30))] sz)) 0 0 (va_A [(a0, .inr (6, [.ref a4, .ref a5, .int k7])), (a1, .inr (4, [.int k8, g9, g10, g11, g12, .int k13, g14, g15, g16, .ref a6, g17, g18, g19, g20, g21, g22, g23, g24])), (a4, .inl (cB25, 5, .inl f26)), (a5, .inl (cB27, 5, .inl f28)), (a6, .inl (cB29, 5, .inl f30))] sz) := by
  refine Met.ofW (cc := cX8_countRows) (maxL := 4) (ret := (some .int)) (by decide) rfl ?_
  intro p e s m args below meth c s₁ B hml hv
  obtain ⟨rfl, hsz, hP, hK, hD0, hN⟩ := hv
  have hx := B.exec
  have hb := B.bytes
  have hr := B.returns
  have hts := atoms_spec (ws := vX8_countRows) B.pre
  have hown : s.vm.findClass RX8 = some m.cls := findClass_of_methodNamed B.named
  have hlocks := B.notSynchronized
  subst hsz
  have hD := hD0.self (sz := s.heap.size)
  generalize hAe : va_A [(a0, .inr (6, [.ref a4, .ref a5, .int k7])), (a1, .inr (4, [.int k8, g9, g10, g11, g12, .int k13, g14, g15, g16, .ref a6, g17, g18, g19, g20, g21, g22, g23, g24])), (a4, .inl (cB25, 5, .inl f26)), (a5, .inl (cB27, 5, .inl f28)), (a6, .inl (cB29, 5, .inl f30))] s.heap.size = A at hD ⊢
  have hA : ∀ q : Nat, s.heap.size ≤ q → A q := fun q h => by rw [← hAe]; exact Or.inr h
  have hS : va_S A s.heap s.heap [] := va_S.rf
  have hP : va_P (dC, dI) vwCl [(a0, .inr (6, [.ref a4, .ref a5, .int k7])), (a1, .inr (4, [.int k8, g9, g10, g11, g12, .int k13, g14, g15, g16, .ref a6, g17, g18, g19, g20, g21, g22, g23, g24])), (a4, .inl (cB25, 5, .inl f26)), (a5, .inl (cB27, 5, .inl f28)), (a6, .inl (cB29, 5, .inl f30))] s.heap := hP
  have hl := lv_entry ([.ref a0, .ref a1, .int k2, .int k3]) (n := 4) (Nat.le_of_ble_eq_true rfl)
  rw [lg_entry_eq]
  generalize (lg_sl ([.ref a0, .ref a1, .int k2, .int k3]) ++ List.replicate (4 - (lg_sl ([.ref a0, .ref a1, .int k2, .int k3])).length) Slot.unset).toArray = ls at hl ⊢
  have hl : lv_has ls 4 [(0, .ref a0), (1, .ref a1), (2, .int k2), (3, .int k3)] := hl
  refine lv_aload_n hx hb dX8_countRows_0 rfl (lv_at hl 0 rfl) ?_
  refine lv_iconst (v := 0) hx hb dX8_countRows_1 (by decide) ?_
  refine va_put (D := (dC, dI)) (ci := 6) (v := .int 0) (ty := .int) (C := RX8) (T := TX8) (N := 3) hx hb hts iX8_countRows_X8 tyX8 tyX8_ok nmX8 hown hK hP hD hS 0 rfl rfl 2 (by decide) (hts (.fieldLink RX8 18 "HookPier$Seats" "found" "I") (List.mem_of_getElem? (i := 1) rfl)) (fun _ h9 => h9) rfl (by decide +kernel) rfl rfl (Nat.le_of_ble_eq_true rfl) dX8_countRows_2 (fun H locs hP hD hS => ?_)
  have hP : va_P (dC, dI) vwCl [(a0, .inr (6, [.ref a4, .ref a5, .int 0])), (a1, .inr (4, [.int k8, g9, g10, g11, g12, .int k13, g14, g15, g16, .ref a6, g17, g18, g19, g20, g21, g22, g23, g24])), (a4, .inl (cB25, 5, .inl f26)), (a5, .inl (cB27, 5, .inl f28)), (a6, .inl (cB29, 5, .inl f30))] H := hP
  have hD : va_D A [(a0, .inr (6, [.ref a4, .ref a5, .int 0])), (a1, .inr (4, [.int k8, g9, g10, g11, g12, .int k13, g14, g15, g16, .ref a6, g17, g18, g19, g20, g21, g22, g23, g24])), (a4, .inl (cB25, 5, .inl f26)), (a5, .inl (cB27, 5, .inl f28)), (a6, .inl (cB29, 5, .inl f30))] := hD
  refine lv_aload_n hx hb dX8_countRows_5 rfl (lv_at hl 0 rfl) ?_
  refine lv_aload_n hx hb dX8_countRows_6 rfl (lv_at hl 1 rfl) ?_
  refine lv_iconst (v := 0) hx hb dX8_countRows_7 (by decide) ?_
  refine lv_iload_n hx hb dX8_countRows_8 rfl (lv_at hl 2 rfl) ?_
  refine lv_iload_n hx hb dX8_countRows_9 rfl (lv_at hl 3 rfl) ?_
  refine cl_v (wc := [(a0, .inr (6, [.ref a4, .ref a5, .int 0])), (a1, .inr (4, [.int k8, g9, g10, g11, g12, .int k13, g14, g15, g16, .ref a6, g17, g18, g19, g20, g21, g22, g23, g24])), (a4, .inl (cB25, 5, .inl f26)), (a5, .inl (cB27, 5, .inl f28)), (a6, .inl (cB29, 5, .inl f30))]) (wr := []) (va_runV (As := [.ref a1, .int 0, .int k2, .int k3]) (rest := []) ⟨hx, hb, hml, hown, hts⟩ (kX8_fill_s0 l dC dI a0 a1 k2 k3 a4 a5 a6 0 k8 (g9) (g10) (g11) (g12) k13 (g14) (g15) (g16) (g17) (g18) (g19) (g20) (g21) (g22) (g23) (g24) cB25 f26 cB27 f28 cB29 f30 (by first | omega | (simp only [ltv_0]; omega)) (by first | omega | (simp only [ltv_0]; omega)) H.size) (cwV 4 hts gX8_countRows_0 rfl rfl rfl (by decide +kernel) ⟨Nat.le_of_ble_eq_true rfl, Nat.le_of_ble_eq_true rfl⟩) (PV (hP.sub (ws' := [(a0, .inr (6, [.ref a4, .ref a5, .int 0])), (a1, .inr (4, [.int k8, g9, g10, g11, g12, .int k13, g14, g15, g16, .ref a6, g17, g18, g19, g20, g21, g22, g23, g24])), (a4, .inl (cB25, 5, .inl f26)), (a5, .inl (cB27, 5, .inl f28)), (a6, .inl (cB29, 5, .inl f30))]) [0, 1, 2, 3, 4] rfl) (hK.sub (tys' := [(cB25, .int), (cB27, .int), (cB29, .int)]) [0, 1, 2] rfl) (hD.sub (ws' := [(a0, .inr (6, [.ref a4, .ref a5, .int 0])), (a1, .inr (4, [.int k8, g9, g10, g11, g12, .int k13, g14, g15, g16, .ref a6, g17, g18, g19, g20, g21, g22, g23, g24])), (a4, .inl (cB25, 5, .inl f26)), (a5, .inl (cB27, 5, .inl f28)), (a6, .inl (cB29, 5, .inl f30))]) [0, 1, 2, 3, 4] (by decide) rfl) hN 0 rfl rfl) rfl rfl hl.1 rfl (lv_room (Nat.le_of_ble_eq_true rfl)) dX8_countRows_10 ⟨Nat.le_of_ble_eq_true rfl, Nat.le_of_ble_eq_true rfl⟩) hP hD hK hS hA [0, 1, 2, 3, 4] [] rfl rfl (by decide) (by decide) (fun u H locs hw hP hD hK hS => ?_)
  obtain ⟨z1, f2, f3⟩ := u
  have b4 := hw
  have hP : va_P (dC, dI) vwCl [(a0, .inr (6, [.ref a4, .ref a5, .int z1])), (a1, .inr (4, [.int k8, g9, g10, g11, g12, .int k13, g14, g15, g16, .ref a6, g17, g18, g19, g20, g21, g22, g23, g24])), (a4, .inl (cB25, 5, .inl f2)), (a5, .inl (cB27, 5, .inl f3)), (a6, .inl (cB29, 5, .inl f30))] H := hP
  have hD : va_D A [(a0, .inr (6, [.ref a4, .ref a5, .int z1])), (a1, .inr (4, [.int k8, g9, g10, g11, g12, .int k13, g14, g15, g16, .ref a6, g17, g18, g19, g20, g21, g22, g23, g24])), (a4, .inl (cB25, 5, .inl f2)), (a5, .inl (cB27, 5, .inl f3)), (a6, .inl (cB29, 5, .inl f30))] := hD
  have hK : va_K (dC, dI) vwCl [(cB25, .int), (cB27, .int), (cB29, .int)] s := hK
  refine lv_aload_n hx hb dX8_countRows_13 rfl (lv_at hl 0 rfl) ?_
  refine va_get (D := (dC, dI)) (ci := 6) (v := .int z1) (C := RX8) (T := TX8) (N := 3) hx hb hts iX8_countRows_X8 hown hK hP 0 rfl rfl 2 (by decide) (hts (.fieldLink RX8 18 "HookPier$Seats" "found" "I") (List.mem_of_getElem? (i := 1) rfl)) (fun _ h9 => h9) rfl dX8_countRows_14 ?_
  have hP9 := hP.sub (ws' := [(a0, .inr (6, [.ref a4, .ref a5, .int z1])), (a1, .inr (4, [.int k8, g9, g10, g11, g12, .int k13, g14, g15, g16, .ref a6, g17, g18, g19, g20, g21, g22, g23, g24])), (a4, .inl (cB25, 5, .inl f2)), (a5, .inl (cB27, 5, .inl f3)), (a6, .inl (cB29, 5, .inl f30))]) [0, 1, 2, 3, 4] rfl
  have hD9 := hD.sub (ws' := [(a0, .inr (6, [.ref a4, .ref a5, .int z1])), (a1, .inr (4, [.int k8, g9, g10, g11, g12, .int k13, g14, g15, g16, .ref a6, g17, g18, g19, g20, g21, g22, g23, g24])), (a4, .inl (cB25, 5, .inl f2)), (a5, .inl (cB27, 5, .inl f3)), (a6, .inl (cB29, 5, .inl f30))]) [0, 1, 2, 3, 4] (by decide) rfl
  have hK9 := hK.sub (tys' := []) [] rfl
  exact W.iret (v := z1) hx hb hr (fun t ht hW => ⟨⟨z1, (z1, f2, f3), rfl, trivial, by rw [ht]; exact hP9, va_K.moved hW.alike hK9, hD9⟩, hS.F ht⟩) hS.2.2 dX8_countRows_17
theorem dX1_untangled_0 : decode cX1_untangled 0 = .ok (.iconst 0, 1) := by decide +kernel
theorem dX1_untangled_1 : decode cX1_untangled 1 = .ok (.istore_n 2, 1) := by decide +kernel
theorem dX1_untangled_12 : decode cX1_untangled 12 = .ok (.aload_n 1, 1) := by decide +kernel
theorem dX1_untangled_13 : decode cX1_untangled 13 = .ok (.getfield 68, 3) := by decide +kernel
theorem dX1_untangled_16 : decode cX1_untangled 16 = .ok (.iload_n 3, 1) := by decide +kernel
theorem dX1_untangled_17 : decode cX1_untangled 17 = .ok (.iaload, 1) := by decide +kernel
theorem dX1_untangled_18 : decode cX1_untangled 18 = .ok (.iconst (-1), 1) := by decide +kernel
theorem dX1_untangled_19 : decode cX1_untangled 19 = .ok (.if_icmp .eq 27, 3) := by decide +kernel
theorem dX1_untangled_2 : decode cX1_untangled 2 = .ok (.iconst 0, 1) := by decide +kernel
theorem dX1_untangled_22 : decode cX1_untangled 22 = .ok (.aload_n 1, 1) := by decide +kernel
theorem dX1_untangled_23 : decode cX1_untangled 23 = .ok (.aload_n 0, 1) := by decide +kernel
theorem dX1_untangled_24 : decode cX1_untangled 24 = .ok (.iload_n 3, 1) := by decide +kernel
theorem dX1_untangled_25 : decode cX1_untangled 25 = .ok (.aload_n 1, 1) := by decide +kernel
theorem dX1_untangled_26 : decode cX1_untangled 26 = .ok (.getfield 68, 3) := by decide +kernel
theorem dX1_untangled_29 : decode cX1_untangled 29 = .ok (.iload_n 3, 1) := by decide +kernel
theorem dX1_untangled_3 : decode cX1_untangled 3 = .ok (.istore_n 3, 1) := by decide +kernel
theorem dX1_untangled_30 : decode cX1_untangled 30 = .ok (.iaload, 1) := by decide +kernel
theorem dX1_untangled_31 : decode cX1_untangled 31 = .ok (.invokestatic 79, 3) := by decide +kernel
theorem dX1_untangled_34 : decode cX1_untangled 34 = .ok (.invokevirtual 82, 3) := by decide +kernel
theorem dX1_untangled_37 : decode cX1_untangled 37 = .ok (.ifCond .ne 9, 3) := by decide +kernel
theorem dX1_untangled_4 : decode cX1_untangled 4 = .ok (.iload_n 3, 1) := by decide +kernel
theorem dX1_untangled_40 : decode cX1_untangled 40 = .ok (.iload_n 2, 1) := by decide +kernel
theorem dX1_untangled_41 : decode cX1_untangled 41 = .ok (.iconst 1, 1) := by decide +kernel
theorem dX1_untangled_42 : decode cX1_untangled 42 = .ok (.iload_n 3, 1) := by decide +kernel
theorem dX1_untangled_43 : decode cX1_untangled 43 = .ok (.ishl, 1) := by decide +kernel
theorem dX1_untangled_44 : decode cX1_untangled 44 = .ok (.ior, 1) := by decide +kernel
theorem dX1_untangled_45 : decode cX1_untangled 45 = .ok (.istore_n 2, 1) := by decide +kernel
theorem dX1_untangled_46 : decode cX1_untangled 46 = .ok (.iinc 3 1, 3) := by decide +kernel
theorem dX1_untangled_49 : decode cX1_untangled 49 = .ok (.goto (-45), 3) := by decide +kernel
theorem dX1_untangled_5 : decode cX1_untangled 5 = .ok (.aload_n 0, 1) := by decide +kernel
theorem dX1_untangled_52 : decode cX1_untangled 52 = .ok (.iload_n 2, 1) := by decide +kernel
theorem dX1_untangled_53 : decode cX1_untangled 53 = .ok (.ireturn, 1) := by decide +kernel
theorem dX1_untangled_6 : decode cX1_untangled 6 = .ok (.getfield 65, 3) := by decide +kernel
theorem dX1_untangled_9 : decode cX1_untangled 9 = .ok (.if_icmp .ge 43, 3) := by decide +kernel
def vX1_untangled : List Cond := .code yX1_untangled cX1_untangled 4 (some .int) :: ([.fieldLink RX1 65 "HookPier$Plan" "askers" "I", .fieldLink RX1 68 "HookPier$Now" "line" "[I", .code yX10_spotOf cX10_spotOf 1 (some .int), .initialized RX10, .static yX10_spotOf, .methodLink RX1 82 yX4_isTangled, .instanceMethod yX4_isTangled, .selects RX4 yX4_isTangled yX4_isTangled, .initialized RX4, .code yX4_isTangled cX4_isTangled 5 (some .boolean), .fieldLink RX4 44 "HookPier$Plan" "askers" "I", .fieldLink RX4 31 "HookPier$Now" "line" "[I", .methodLink RX4 53 yX6_isTangle, .instanceMethod yX6_isTangle, .selects RX6 yX6_isTangle yX6_isTangle, .initialized RX6, .code yX6_isTangle cX6_isTangle 5 (some .boolean), .methodLink RX6 89 Lib.Math.abs.name, .static Lib.Math.abs.name, .initialized "java/lang/Math", .code Lib.Math.abs.name Lib.Math.abs.code 1 (some .int), .fieldLink RX6 39 "HookPier$Plan" "reach" "[I"] ++ wsX60 ++ wsX40)
theorem iX1_untangled_X6 : ∀ w ∈ wsX60, w ∈ vX1_untangled := fun _ h => List.mem_cons_of_mem _ (List.mem_append_left _ (List.mem_append_right _ h))
theorem iX1_untangled_X4 : ∀ w ∈ wsX40, w ∈ vX1_untangled := fun _ h => List.mem_cons_of_mem _ (List.mem_append_right _ h)
set_option maxRecDepth 20000 in
theorem gX1_untangled_0 : GoodIn vX1_untangled vX10_spotOf := (goodIn_r (.code yX10_spotOf cX10_spotOf 1 (some .int) :: []) [3] (by decide +kernel) (by decide +kernel) : GoodIn vX1_untangled (.code yX10_spotOf cX10_spotOf 1 (some .int) :: []))
set_option maxRecDepth 20000 in
theorem gX1_untangled_1 : GoodIn vX1_untangled (wsV RX1 82 RX4 yX4_isTangled vX4_isTangled) := goodIn_app (goodIn_r [.methodLink RX1 82 yX4_isTangled, .instanceMethod yX4_isTangled, .selects RX4 yX4_isTangled yX4_isTangled, .initialized RX4] [6, 7, 8, 9] (by decide +kernel) (by decide +kernel)) (goodIn_ca (goodIn_ca (goodIn_r (.code yX4_isTangled cX4_isTangled 5 (some .boolean) :: [.fieldLink RX4 44 "HookPier$Plan" "askers" "I", .fieldLink RX4 31 "HookPier$Now" "line" "[I", .code yX10_spotOf cX10_spotOf 1 (some .int), .initialized RX10, .static yX10_spotOf, .methodLink RX4 53 yX6_isTangle, .instanceMethod yX6_isTangle, .selects RX6 yX6_isTangle yX6_isTangle, .initialized RX6, .code yX6_isTangle cX6_isTangle 5 (some .boolean), .methodLink RX6 89 Lib.Math.abs.name, .static Lib.Math.abs.name, .initialized "java/lang/Math", .code Lib.Math.abs.name Lib.Math.abs.code 1 (some .int), .fieldLink RX6 39 "HookPier$Plan" "reach" "[I"]) [10, 11, 12, 3, 4, 5, 13, 14, 15, 16, 17, 18, 19, 20, 21, 22] (by decide +kernel) (by decide +kernel) : GoodIn vX1_untangled (.code yX4_isTangled cX4_isTangled 5 (some .boolean) :: [.fieldLink RX4 44 "HookPier$Plan" "askers" "I", .fieldLink RX4 31 "HookPier$Now" "line" "[I", .code yX10_spotOf cX10_spotOf 1 (some .int), .initialized RX10, .static yX10_spotOf, .methodLink RX4 53 yX6_isTangle, .instanceMethod yX6_isTangle, .selects RX6 yX6_isTangle yX6_isTangle, .initialized RX6, .code yX6_isTangle cX6_isTangle 5 (some .boolean), .methodLink RX6 89 Lib.Math.abs.name, .static Lib.Math.abs.name, .initialized "java/lang/Math", .code Lib.Math.abs.name Lib.Math.abs.code 1 (some .int), .fieldLink RX6 39 "HookPier$Plan" "reach" "[I"])) (goodIn_sub iX1_untangled_X6 (by decide +kernel))) (goodIn_sub iX1_untangled_X4 (by decide +kernel)))
set_option maxHeartbeats 2000000 in
set_option maxRecDepth 100000 in
theorem kX1_untangled (l : Launch) (dC : Nat → ClassId) (dI : Nat → Nat → Nat) (a0 : Nat) (a1 : Nat) (a2 : Nat) (a3 : Nat) (g4 : Value) (g5 : Value) (g6 : Value) (g7 : Value) (g8 : Value) (k9 : Int32) (g10 : Value) (g11 : Value) (g12 : Value) (g13 : Value) (g14 : Value) (g15 : Value) (g16 : Value) (g17 : Value) (g18 : Value) (g19 : Value) (g20 : Value) (g21 : Value) (g22 : Value) (g23 : Value) (g24 : Value) (g25 : Value) (g26 : Value) (cB27 : ClassId) (f28 : Nat → Int32) (cB29 : ClassId) (f30 : Nat → Int32) (hk9 : (0 ≤ k9.toInt ∧ k9.toInt ≤ 5)) (sz : Nat) : Met l yX1_untangled vX1_untangled ({ frames := 3, cells := 0, slots := 0, locals := 69 }) (PC (dC, dI) [.ref a0, .ref a1] sz [(a0, .inr (4, [g4, g5, g6, g7, g8, .int k9, g10, g11, g12, .ref a2, g13, g14, g15, g16, g17, g18, g19, g20])), (a1, .inr (3, [g21, g22, g23, g24, g25, g26, .ref a3])), (a2, .inl (cB27, 5, .inl f28)), (a3, .inl (cB29, 5, .inl f30))] [(cB27, .int), (cB29, .int)]) (va_Qi (S := Unit) (fun (r : Int32) _ => (0 ≤ r.toInt ∧ r.toInt ≤ 31)) (fun _ t => BC (dC, dI) (va_A [(a0, .inr (4, [g4, g5, g6, g7, g8, .int k9, g10, g11, g12, .ref a2, g13, g14, g15, g16, g17, g18, g19, g20])), (a1, .inr (3, [g21, g22, g23, g24, g25, g26, .ref a3])), (a2, .inl (cB27, 5, .inl f28)), (a3, .inl (cB29, 5, .inl f30))] sz) [(a0, .inr (4, [g4, g5, g6, g7, g8, .int k9, g10, g11, g12, .ref a2, g13, g14, g15, g16, g17, g18, g19, g20])), (a1, .inr (3, [g21, g22, g23, g24, g25, g26, .ref a3])), (a2, .inl (cB27, 5, .inl f28)), (a3, .inl (cB29, 5, .inl f30))] [] t) (va_A [(a0, .inr (4, [g4, g5, g6, g7, g8, .int k9, g10, g11, g12, .ref a2, g13, g14, g15, g16, g17, g18, g19, g20])), (a1, .inr (3, [g21, g22, g23, g24, g25, g26, .ref a3])), (a2, .inl (cB27, 5, .inl f28)), (a3, .inl (cB29, 5, .inl f30))] sz)) 0 0 (va_A [(a0, .inr (4, [g4, g5, g6, g7, g8, .int k9, g10, g11, g12, .ref a2, g13, g14, g15, g16, g17, g18, g19, g20])), (a1, .inr (3, [g21, g22, g23, g24, g25, g26, .ref a3])), (a2, .inl (cB27, 5, .inl f28)), (a3, .inl (cB29, 5, .inl f30))] sz) := by
  refine Met.ofW (cc := cX1_untangled) (maxL := 4) (ret := (some .int)) (by decide) rfl ?_
  intro p e s m args below meth c s₁ B hml hv
  obtain ⟨rfl, hsz, hP, hK, hD0, hN⟩ := hv
  have hx := B.exec
  have hb := B.bytes
  have hr := B.returns
  have hts := atoms_spec (ws := vX1_untangled) B.pre
  have hown : s.vm.findClass RX1 = some m.cls := findClass_of_methodNamed B.named
  have hlocks := B.notSynchronized
  subst hsz
  have hD := hD0.self (sz := s.heap.size)
  generalize hAe : va_A [(a0, .inr (4, [g4, g5, g6, g7, g8, .int k9, g10, g11, g12, .ref a2, g13, g14, g15, g16, g17, g18, g19, g20])), (a1, .inr (3, [g21, g22, g23, g24, g25, g26, .ref a3])), (a2, .inl (cB27, 5, .inl f28)), (a3, .inl (cB29, 5, .inl f30))] s.heap.size = A at hD ⊢
  have hA : ∀ q : Nat, s.heap.size ≤ q → A q := fun q h => by rw [← hAe]; exact Or.inr h
  have hS : va_S A s.heap s.heap [] := va_S.rf
  have hP : va_P (dC, dI) vwCl [(a0, .inr (4, [g4, g5, g6, g7, g8, .int k9, g10, g11, g12, .ref a2, g13, g14, g15, g16, g17, g18, g19, g20])), (a1, .inr (3, [g21, g22, g23, g24, g25, g26, .ref a3])), (a2, .inl (cB27, 5, .inl f28)), (a3, .inl (cB29, 5, .inl f30))] s.heap := hP
  have hl := lv_entry ([.ref a0, .ref a1]) (n := 4) (Nat.le_of_ble_eq_true rfl)
  rw [lg_entry_eq]
  generalize (lg_sl ([.ref a0, .ref a1]) ++ List.replicate (4 - (lg_sl ([.ref a0, .ref a1])).length) Slot.unset).toArray = ls at hl ⊢
  have hl : lv_has ls 4 [(0, .ref a0), (1, .ref a1)] := hl
  refine lv_iconst (v := 0) hx hb dX1_untangled_0 (by decide) ?_
  refine lv_istore_n (lv' := [(2, .int 0), (0, .ref a0), (1, .ref a1)]) hx hb dX1_untangled_1 rfl hl (by decide) rfl (fun ls hl => ?_)
  refine lv_iconst (v := 0) hx hb dX1_untangled_2 (by decide) ?_
  refine lv_istore_n (lv' := [(3, .int 0), (2, .int 0), (0, .ref a0), (1, .ref a1)]) hx hb dX1_untangled_3 rfl hl (by decide) rfl (fun ls hl => ?_)
  have L4_72 : ∀ (n : Nat) (z70 : Int32) (z71 : Int32) (H : Heap) (locs : List Loc) (ls : Array Slot), (0 ≤ z70.toInt ∧ z70.toInt ≤ 5) → (0 ≤ z71.toInt ∧ z71.toInt ≤ 31) → 5 - z70.toInt < (n : Int) → va_P (dC, dI) vwCl [(a0, .inr (4, [g4, g5, g6, g7, g8, .int k9, g10, g11, g12, .ref a2, g13, g14, g15, g16, g17, g18, g19, g20])), (a1, .inr (3, [g21, g22, g23, g24, g25, g26, .ref a3])), (a2, .inl (cB27, 5, .inl f28)), (a3, .inl (cB29, 5, .inl f30))] H → va_D A [(a0, .inr (4, [g4, g5, g6, g7, g8, .int k9, g10, g11, g12, .ref a2, g13, g14, g15, g16, g17, g18, g19, g20])), (a1, .inr (3, [g21, g22, g23, g24, g25, g26, .ref a3])), (a2, .inl (cB27, 5, .inl f28)), (a3, .inl (cB29, 5, .inl f30))] → va_S A s.heap H locs → lv_has ls 4 [(3, .int z70), (2, .int z71), (0, .ref a0), (1, .ref a1)] → W p l e (headSpec vX1_untangled { frames := 3, cells := 0, slots := 0, locals := 69 }).room s m ([.ref a0, .ref a1]).toArray below meth c H locs 0 0 (MQ below (va_Qi (S := Unit) (fun (r : Int32) _ => (0 ≤ r.toInt ∧ r.toInt ≤ 31)) (fun _ t => BC (dC, dI) A [(a0, .inr (4, [g4, g5, g6, g7, g8, .int k9, g10, g11, g12, .ref a2, g13, g14, g15, g16, g17, g18, g19, g20])), (a1, .inr (3, [g21, g22, g23, g24, g25, g26, .ref a3])), (a2, .inl (cB27, 5, .inl f28)), (a3, .inl (cB29, 5, .inl f30))] [] t) A) ([.ref a0, .ref a1]).toArray s 0 0 A) (F0 m 4 ls []) := by
    intro n
    induction n with
    | zero =>
      intro z70 z71 H locs ls b4_0 b4_1 hm _ _ _ _
      exact absurd hm (by omega)
    | succ n ih4 =>
      intro z70 z71 H locs ls b4_0 b4_1 hm4 hP hD hS hl
      refine lv_iload_n hx hb dX1_untangled_4 rfl (lv_at hl 0 rfl) ?_
      refine lv_aload_n hx hb dX1_untangled_5 rfl (lv_at hl 2 rfl) ?_
      refine va_get (D := (dC, dI)) (ci := 4) (v := .int k9) (C := RX6) (T := TX6) (N := 18) hx hb hts iX1_untangled_X6 hown hK hP 0 rfl rfl 5 (by decide) (hts (.fieldLink RX1 65 "HookPier$Plan" "askers" "I") (List.mem_of_getElem? (i := 1) rfl)) (fun _ h9 => h9) rfl dX1_untangled_6 ?_
      refine lv_icmp_ge (tgt := 52) hx hb dX1_untangled_9 (by decide) (fun c73 => ?_) (fun c73 => ?_)
      · simp only [fa_lt, fa_le, fa_eq, ltv_0] at c73
        refine lv_iload_n hx hb dX1_untangled_52 rfl (lv_at hl 1 rfl) ?_
        have hP9 := hP.sub (ws' := [(a0, .inr (4, [g4, g5, g6, g7, g8, .int k9, g10, g11, g12, .ref a2, g13, g14, g15, g16, g17, g18, g19, g20])), (a1, .inr (3, [g21, g22, g23, g24, g25, g26, .ref a3])), (a2, .inl (cB27, 5, .inl f28)), (a3, .inl (cB29, 5, .inl f30))]) [0, 1, 2, 3] rfl
        have hD9 := hD.sub (ws' := [(a0, .inr (4, [g4, g5, g6, g7, g8, .int k9, g10, g11, g12, .ref a2, g13, g14, g15, g16, g17, g18, g19, g20])), (a1, .inr (3, [g21, g22, g23, g24, g25, g26, .ref a3])), (a2, .inl (cB27, 5, .inl f28)), (a3, .inl (cB29, 5, .inl f30))]) [0, 1, 2, 3] (by decide) rfl
        have hK9 := hK.sub (tys' := []) [] rfl
        exact W.iret (v := z71) hx hb hr (fun t ht hW => ⟨⟨z71, (), rfl, (by first | trivial | omega | (simp only [ltv_0]; omega)), by rw [ht]; exact hP9, va_K.moved hW.alike hK9, hD9⟩, hS.F ht⟩) hS.2.2 dX1_untangled_53
      · simp only [fa_lt, fa_le, fa_eq, ltv_0] at c73
        refine lv_aload_n hx hb dX1_untangled_12 rfl (lv_at hl 3 rfl) ?_
        refine va_get (D := (dC, dI)) (ci := 3) (v := .ref a3) (C := RX4) (T := TX4) (N := 7) hx hb hts iX1_untangled_X4 hown hK hP 1 rfl rfl 6 (by decide) (hts (.fieldLink RX1 68 "HookPier$Now" "line" "[I") (List.mem_of_getElem? (i := 2) rfl)) (fun _ h9 => h9) rfl dX1_untangled_13 ?_
        refine lv_iload_n hx hb dX1_untangled_16 rfl (lv_at hl 0 rfl) ?_
        refine va_iald hx hb hK hP 3 1 rfl rfl (vp_in_iff.mpr (by omega)) dX1_untangled_17 ?_
        refine lv_topi (fun z74 ez74 => ?_)
        clear ez74
        refine lv_iconst (v := (-1)) hx hb dX1_untangled_18 (by decide) ?_
        refine lv_icmp_eq (tgt := 46) hx hb dX1_untangled_19 (by decide) (fun c75 => ?_) (fun c75 => ?_)
        · simp only [fa_lt, fa_le, fa_eq, ltv_m1, ltv_0] at c75
          obtain ⟨z76, ez76⟩ : ∃ y : Int32, y = z70 + 1 := ⟨_, rfl⟩
          have tz76 : z76.toInt = z70.toInt + 1 := by rw [ez76, iadd_t (by simp only [ltv_1]; omega) (by simp only [ltv_1]; omega)]; simp only [ltv_1]
          refine lv_iinc (v := z76) (lv' := [(3, .int z76), (2, .int z71), (0, .ref a0), (1, .ref a1)]) hx hb dX1_untangled_46 hl (k := 0) rfl (by rw [ez76]; rfl) (by decide) rfl (fun ls hl => ?_)
          refine lv_goto (tgt := 4) hx hb dX1_untangled_49 (by decide) ?_
          exact ih4 z76 z71 H locs ls (by first | omega | (simp only [ltv_0]; omega)) (by first | omega | (simp only [ltv_0]; omega)) (by first | omega | (simp only [ltv_0]; omega)) hP hD hS (lv_sub hl [0, 1, 2, 3] rfl)
        · simp only [fa_lt, fa_le, fa_eq, ltv_m1, ltv_0] at c75
          refine lv_aload_n hx hb dX1_untangled_22 rfl (lv_at hl 3 rfl) ?_
          refine lv_aload_n hx hb dX1_untangled_23 rfl (lv_at hl 2 rfl) ?_
          refine lv_iload_n hx hb dX1_untangled_24 rfl (lv_at hl 0 rfl) ?_
          refine lv_aload_n hx hb dX1_untangled_25 rfl (lv_at hl 3 rfl) ?_
          refine va_get (D := (dC, dI)) (ci := 3) (v := .ref a3) (C := RX4) (T := TX4) (N := 7) hx hb hts iX1_untangled_X4 hown hK hP 1 rfl rfl 6 (by decide) (hts (.fieldLink RX1 68 "HookPier$Now" "line" "[I") (List.mem_of_getElem? (i := 2) rfl)) (fun _ h9 => h9) rfl dX1_untangled_26 ?_
          refine lv_iload_n hx hb dX1_untangled_29 rfl (lv_at hl 0 rfl) ?_
          refine va_iald hx hb hK hP 3 1 rfl rfl (vp_in_iff.mpr (by omega)) dX1_untangled_30 ?_
          refine lv_topi (fun z77 ez77 => ?_)
          clear ez77
          refine cl_i (wc := []) (wr := [(a0, .inr (4, [g4, g5, g6, g7, g8, .int k9, g10, g11, g12, .ref a2, g13, g14, g15, g16, g17, g18, g19, g20])), (a1, .inr (3, [g21, g22, g23, g24, g25, g26, .ref a3])), (a2, .inl (cB27, 5, .inl f28)), (a3, .inl (cB29, 5, .inl f30))]) (va_runSN (As := [.int z77]) (rest := [.int z70, .ref a0, .ref a1]) ⟨hx, hb, hml, hown, hts⟩ (kX10_spotOf l dC dI z77  H.size) ⟨va_cnB 1 hts gX1_untangled_0 rfl rfl rfl (hN.1 (.methodLinkNest RX1 79 yX10_spotOf "HookPier") (List.mem_of_getElem? (i := 18) rfl)) (hts (.initialized RX10) (List.mem_of_getElem? (i := 4) rfl)) (by decide +kernel) ⟨Nat.le_of_ble_eq_true rfl, Nat.le_of_ble_eq_true rfl⟩, (hts (.static yX10_spotOf) (List.mem_of_getElem? (i := 5) rfl)), trivial⟩ (PS (hP.sub (ws' := []) [] rfl) (hK.sub (tys' := []) [] rfl) (hD.sub (ws' := []) [] (by decide) rfl) hN) rfl rfl hl.1 rfl (lv_room (Nat.le_of_ble_eq_true rfl)) dX1_untangled_31 ⟨Nat.le_of_ble_eq_true rfl, Nat.le_of_ble_eq_true rfl⟩) hP hD hK hS hA [] [0, 1, 2, 3] rfl rfl (by decide) (by decide) (fun z78 _u H locs hw hP hD hK hS => ?_)
          have b79 := hw
          have hP : va_P (dC, dI) vwCl [(a0, .inr (4, [g4, g5, g6, g7, g8, .int k9, g10, g11, g12, .ref a2, g13, g14, g15, g16, g17, g18, g19, g20])), (a1, .inr (3, [g21, g22, g23, g24, g25, g26, .ref a3])), (a2, .inl (cB27, 5, .inl f28)), (a3, .inl (cB29, 5, .inl f30))] H := hP
          have hD : va_D A [(a0, .inr (4, [g4, g5, g6, g7, g8, .int k9, g10, g11, g12, .ref a2, g13, g14, g15, g16, g17, g18, g19, g20])), (a1, .inr (3, [g21, g22, g23, g24, g25, g26, .ref a3])), (a2, .inl (cB27, 5, .inl f28)), (a3, .inl (cB29, 5, .inl f30))] := hD
          have hK : va_K (dC, dI) vwCl [(cB27, .int), (cB29, .int)] s := hK
          refine cl_i (wc := [(a1, .inr (3, [g21, g22, g23, g24, g25, g26, .ref a3])), (a0, .inr (4, [g4, g5, g6, g7, g8, .int k9, g10, g11, g12, .ref a2, g13, g14, g15, g16, g17, g18, g19, g20])), (a3, .inl (cB29, 5, .inl f30)), (a2, .inl (cB27, 5, .inl f28))]) (wr := []) (va_runV (As := [.ref a0, .int z70, .int z78]) (rest := []) ⟨hx, hb, hml, hown, hts⟩ (kX4_isTangled l dC dI a1 a0 z70 z78 a3 a2 (g21) (g22) (g23) (g24) (g25) (g26) (g4) (g5) (g6) (g7) (g8) k9 (g10) (g11) (g12) (g13) (g14) (g15) (g16) (g17) (g18) (g19) (g20) cB29 f30 cB27 f28 (by first | omega | (simp only [ltv_0]; omega)) (by first | omega | (simp only [ltv_0]; omega)) H.size) (cwV 3 hts gX1_untangled_1 rfl rfl rfl (by decide +kernel) ⟨Nat.le_of_ble_eq_true rfl, Nat.le_of_ble_eq_true rfl⟩) (PV (hP.sub (ws' := [(a1, .inr (3, [g21, g22, g23, g24, g25, g26, .ref a3])), (a0, .inr (4, [g4, g5, g6, g7, g8, .int k9, g10, g11, g12, .ref a2, g13, g14, g15, g16, g17, g18, g19, g20])), (a3, .inl (cB29, 5, .inl f30)), (a2, .inl (cB27, 5, .inl f28))]) [1, 0, 3, 2] rfl) (hK.sub (tys' := [(cB29, .int), (cB27, .int)]) [1, 0] rfl) (hD.sub (ws' := [(a1, .inr (3, [g21, g22, g23, g24, g25, g26, .ref a3])), (a0, .inr (4, [g4, g5, g6, g7, g8, .int k9, g10, g11, g12, .ref a2, g13, g14, g15, g16, g17, g18, g19, g20])), (a3, .inl (cB29, 5, .inl f30)), (a2, .inl (cB27, 5, .inl f28))]) [1, 0, 3, 2] (by decide) rfl) hN 0 rfl rfl) rfl rfl hl.1 rfl (lv_room (Nat.le_of_ble_eq_true rfl)) dX1_untangled_34 ⟨Nat.le_of_ble_eq_true rfl, Nat.le_of_ble_eq_true rfl⟩) hP hD hK hS hA [1, 0, 3, 2] [] rfl rfl (by decide) (by decide) (fun z80 _u H locs hw hP hD hK hS => ?_)
          have b81 := hw
          have hP : va_P (dC, dI) vwCl [(a1, .inr (3, [g21, g22, g23, g24, g25, g26, .ref a3])), (a0, .inr (4, [g4, g5, g6, g7, g8, .int k9, g10, g11, g12, .ref a2, g13, g14, g15, g16, g17, g18, g19, g20])), (a3, .inl (cB29, 5, .inl f30)), (a2, .inl (cB27, 5, .inl f28))] H := hP
          have hD : va_D A [(a1, .inr (3, [g21, g22, g23, g24, g25, g26, .ref a3])), (a0, .inr (4, [g4, g5, g6, g7, g8, .int k9, g10, g11, g12, .ref a2, g13, g14, g15, g16, g17, g18, g19, g20])), (a3, .inl (cB29, 5, .inl f30)), (a2, .inl (cB27, 5, .inl f28))] := hD
          have hK : va_K (dC, dI) vwCl [(cB27, .int), (cB29, .int)] s := hK
          refine lv_if_ne (tgt := 46) hx hb dX1_untangled_37 (by decide) (fun c82 => ?_) (fun c82 => ?_)
          · simp only [fa_lt, fa_le, fa_eq, ltv_0] at c82
            obtain ⟨z83, ez83⟩ : ∃ y : Int32, y = z70 + 1 := ⟨_, rfl⟩
            have tz83 : z83.toInt = z70.toInt + 1 := by rw [ez83, iadd_t (by simp only [ltv_1]; omega) (by simp only [ltv_1]; omega)]; simp only [ltv_1]
            refine lv_iinc (v := z83) (lv' := [(3, .int z83), (2, .int z71), (0, .ref a0), (1, .ref a1)]) hx hb dX1_untangled_46 hl (k := 0) rfl (by rw [ez83]; rfl) (by decide) rfl (fun ls hl => ?_)
            refine lv_goto (tgt := 4) hx hb dX1_untangled_49 (by decide) ?_
            exact ih4 z83 z71 H locs ls (by first | omega | (simp only [ltv_0]; omega)) (by first | omega | (simp only [ltv_0]; omega)) (by first | omega | (simp only [ltv_0]; omega)) (hP.sub (ws' := [(a0, .inr (4, [g4, g5, g6, g7, g8, .int k9, g10, g11, g12, .ref a2, g13, g14, g15, g16, g17, g18, g19, g20])), (a1, .inr (3, [g21, g22, g23, g24, g25, g26, .ref a3])), (a2, .inl (cB27, 5, .inl f28)), (a3, .inl (cB29, 5, .inl f30))]) [1, 0, 3, 2] rfl) (hD.sub (ws' := [(a0, .inr (4, [g4, g5, g6, g7, g8, .int k9, g10, g11, g12, .ref a2, g13, g14, g15, g16, g17, g18, g19, g20])), (a1, .inr (3, [g21, g22, g23, g24, g25, g26, .ref a3])), (a2, .inl (cB27, 5, .inl f28)), (a3, .inl (cB29, 5, .inl f30))]) [1, 0, 3, 2] (by decide) rfl) hS (lv_sub hl [0, 1, 2, 3] rfl)
          · simp only [fa_lt, fa_le, fa_eq, ltv_0] at c82
            refine lv_iload_n hx hb dX1_untangled_40 rfl (lv_at hl 1 rfl) ?_
            refine lv_iconst (v := 1) hx hb dX1_untangled_41 (by decide) ?_
            refine lv_iload_n hx hb dX1_untangled_42 rfl (lv_at hl 0 rfl) ?_
            refine lv_ishl hx hb dX1_untangled_43 ?_
            refine lv_topi (fun z84 ez84 => ?_)
            have tz84 : 1 ≤ z84.toInt ∧ z84.toInt ≤ 16 := by rw [ez84]; have h9 := ishl1_t 0 4 1 16 rfl rfl (by decide) (k := z70) (by omega) (by omega); omega
            refine lv_ior hx hb dX1_untangled_44 ?_
            refine lv_topi (fun z85 ez85 => ?_)
            have tz85 : 0 ≤ z85.toInt ∧ z85.toInt ≤ 31 := by rw [ez85]; have h9 := ior_t 5 31 rfl (by decide) (x := z71) (y := z84) (by first | omega | (simp only [ltv_0]; omega)) (by first | omega | (simp only [ltv_0]; omega)); omega
            refine lv_istore_n (lv' := [(2, .int z85), (3, .int z70), (0, .ref a0), (1, .ref a1)]) hx hb dX1_untangled_45 rfl hl (by decide) rfl (fun ls hl => ?_)
            obtain ⟨z86, ez86⟩ : ∃ y : Int32, y = z70 + 1 := ⟨_, rfl⟩
            have tz86 : z86.toInt = z70.toInt + 1 := by rw [ez86, iadd_t (by simp only [ltv_1]; omega) (by simp only [ltv_1]; omega)]; simp only [ltv_1]
            refine lv_iinc (v := z86) (lv' := [(3, .int z86), (2, .int z85), (0, .ref a0), (1, .ref a1)]) hx hb dX1_untangled_46 hl (k := 1) rfl (by rw [ez86]; rfl) (by decide) rfl (fun ls hl => ?_)
            refine lv_goto (tgt := 4) hx hb dX1_untangled_49 (by decide) ?_
            exact ih4 z86 z85 H locs ls (by first | omega | (simp only [ltv_0]; omega)) (by first | omega | (simp only [ltv_0]; omega)) (by first | omega | (simp only [ltv_0]; omega)) (hP.sub (ws' := [(a0, .inr (4, [g4, g5, g6, g7, g8, .int k9, g10, g11, g12, .ref a2, g13, g14, g15, g16, g17, g18, g19, g20])), (a1, .inr (3, [g21, g22, g23, g24, g25, g26, .ref a3])), (a2, .inl (cB27, 5, .inl f28)), (a3, .inl (cB29, 5, .inl f30))]) [1, 0, 3, 2] rfl) (hD.sub (ws' := [(a0, .inr (4, [g4, g5, g6, g7, g8, .int k9, g10, g11, g12, .ref a2, g13, g14, g15, g16, g17, g18, g19, g20])), (a1, .inr (3, [g21, g22, g23, g24, g25, g26, .ref a3])), (a2, .inl (cB27, 5, .inl f28)), (a3, .inl (cB29, 5, .inl f30))]) [1, 0, 3, 2] (by decide) rfl) hS (lv_sub hl [0, 1, 2, 3] rfl)
  exact L4_72 6 (0) (0) s.heap _ ls (by first | omega | (simp only [ltv_0]; omega)) (by first | omega | (simp only [ltv_0]; omega)) (by first | omega | (simp only [ltv_0]; omega)) hP hD hS (lv_sub hl [0, 1, 2, 3] rfl)
theorem dX1_taker_0 : decode cX1_taker 0 = .ok (.iconst 0, 1) := by decide +kernel
theorem dX1_taker_1 : decode cX1_taker 1 = .ok (.istore_n 3, 1) := by decide +kernel
theorem dX1_taker_10 : decode cX1_taker 10 = .ok (.aload_n 1, 1) := by decide +kernel
theorem dX1_taker_11 : decode cX1_taker 11 = .ok (.getfield 95, 3) := by decide +kernel
theorem dX1_taker_14 : decode cX1_taker 14 = .ok (.iload_n 3, 1) := by decide +kernel
theorem dX1_taker_15 : decode cX1_taker 15 = .ok (.iaload, 1) := by decide +kernel
theorem dX1_taker_16 : decode cX1_taker 16 = .ok (.ifCond .ne 18, 3) := by decide +kernel
theorem dX1_taker_19 : decode cX1_taker 19 = .ok (.aload_n 1, 1) := by decide +kernel
theorem dX1_taker_2 : decode cX1_taker 2 = .ok (.iload_n 3, 1) := by decide +kernel
theorem dX1_taker_20 : decode cX1_taker 20 = .ok (.invokevirtual 98, 3) := by decide +kernel
theorem dX1_taker_23 : decode cX1_taker 23 = .ok (.aload_n 0, 1) := by decide +kernel
theorem dX1_taker_24 : decode cX1_taker 24 = .ok (.iload_n 3, 1) := by decide +kernel
theorem dX1_taker_25 : decode cX1_taker 25 = .ok (.iload_n 2, 1) := by decide +kernel
theorem dX1_taker_26 : decode cX1_taker 26 = .ok (.invokevirtual 102, 3) := by decide +kernel
theorem dX1_taker_29 : decode cX1_taker 29 = .ok (.if_icmp .ge 5, 3) := by decide +kernel
theorem dX1_taker_3 : decode cX1_taker 3 = .ok (.aload_n 0, 1) := by decide +kernel
theorem dX1_taker_32 : decode cX1_taker 32 = .ok (.iload_n 3, 1) := by decide +kernel
theorem dX1_taker_33 : decode cX1_taker 33 = .ok (.ireturn, 1) := by decide +kernel
theorem dX1_taker_34 : decode cX1_taker 34 = .ok (.iinc 3 1, 3) := by decide +kernel
theorem dX1_taker_37 : decode cX1_taker 37 = .ok (.goto (-35), 3) := by decide +kernel
theorem dX1_taker_4 : decode cX1_taker 4 = .ok (.getfield 92, 3) := by decide +kernel
theorem dX1_taker_40 : decode cX1_taker 40 = .ok (.iconst (-1), 1) := by decide +kernel
theorem dX1_taker_41 : decode cX1_taker 41 = .ok (.ireturn, 1) := by decide +kernel
theorem dX1_taker_7 : decode cX1_taker 7 = .ok (.if_icmp .ge 33, 3) := by decide +kernel
def vX1_taker : List Cond := .code yX1_taker cX1_taker 4 (some .int) :: ([.fieldLink RX1 92 "HookPier$Plan" "answers" "I", .fieldLink RX1 95 "HookPier$Now" "stage" "[I", .methodLink RX1 98 yX4_draw, .instanceMethod yX4_draw, .selects RX4 yX4_draw yX4_draw, .initialized RX4, .code yX4_draw cX4_draw 1 (some .int), .fieldLink RX4 15 "HookPier$Now" "seedNow" "I", .constant RX4 57 (65537), .methodLink RX1 102 yX6_wishFor, .instanceMethod yX6_wishFor, .selects RX6 yX6_wishFor yX6_wishFor, .initialized RX6, .code yX6_wishFor cX6_wishFor 3 (some .int), .fieldLink RX6 52 "HookPier$Plan" "hunger" "[I", .methodLink RX6 94 yX6_wishBy, .instanceMethod yX6_wishBy, .selects RX6 yX6_wishBy yX6_wishBy, .code yX6_wishBy cX6_wishBy 5 (some .int), .code yX10_spotOf cX10_spotOf 1 (some .int), .initialized RX10, .static yX10_spotOf, .fieldLink RX6 46 "HookPier$Plan" "at" "[I", .methodLink RX6 89 Lib.Math.abs.name, .static Lib.Math.abs.name, .initialized "java/lang/Math", .code Lib.Math.abs.name Lib.Math.abs.code 1 (some .int), .fieldLink RX6 43 "HookPier$Plan" "kind" "[I", .fieldLink RX6 55 "HookPier$Plan" "likes" "[I", .code yX10_baitOf cX10_baitOf 1 (some .int), .static yX10_baitOf, .methodLink RX6 98 Lib.Math.min.name, .static Lib.Math.min.name, .code Lib.Math.min.name Lib.Math.min.code 2 (some .int), .methodLink RX6 102 Lib.Math.max.name, .static Lib.Math.max.name, .code Lib.Math.max.name Lib.Math.max.code 2 (some .int), .code yX10_fathomsOf cX10_fathomsOf 1 (some .int), .static yX10_fathomsOf, .fieldLink RX6 49 "HookPier$Plan" "depth" "[I"] ++ wsX60 ++ wsX40)
theorem iX1_taker_X6 : ∀ w ∈ wsX60, w ∈ vX1_taker := fun _ h => List.mem_cons_of_mem _ (List.mem_append_left _ (List.mem_append_right _ h))
theorem iX1_taker_X4 : ∀ w ∈ wsX40, w ∈ vX1_taker := fun _ h => List.mem_cons_of_mem _ (List.mem_append_right _ h)
set_option maxRecDepth 20000 in
theorem gX1_taker_0 : GoodIn vX1_taker (wsV RX1 98 RX4 yX4_draw vX4_draw) := goodIn_app (goodIn_r [.methodLink RX1 98 yX4_draw, .instanceMethod yX4_draw, .selects RX4 yX4_draw yX4_draw, .initialized RX4] [3, 4, 5, 6] (by decide +kernel) (by decide +kernel)) (goodIn_ca (goodIn_r (.code yX4_draw cX4_draw 1 (some .int) :: [.fieldLink RX4 15 "HookPier$Now" "seedNow" "I", .constant RX4 57 (65537)]) [7, 8, 9] (by decide +kernel) (by decide +kernel) : GoodIn vX1_taker (.code yX4_draw cX4_draw 1 (some .int) :: [.fieldLink RX4 15 "HookPier$Now" "seedNow" "I", .constant RX4 57 (65537)])) (goodIn_sub iX1_taker_X4 (by decide +kernel)))
set_option maxRecDepth 20000 in
theorem gX1_taker_1 : GoodIn vX1_taker (wsV RX1 102 RX6 yX6_wishFor vX6_wishFor) := goodIn_app (goodIn_r [.methodLink RX1 102 yX6_wishFor, .instanceMethod yX6_wishFor, .selects RX6 yX6_wishFor yX6_wishFor, .initialized RX6] [10, 11, 12, 13] (by decide +kernel) (by decide +kernel)) (goodIn_ca (goodIn_r (.code yX6_wishFor cX6_wishFor 3 (some .int) :: [.fieldLink RX6 52 "HookPier$Plan" "hunger" "[I", .methodLink RX6 94 yX6_wishBy, .instanceMethod yX6_wishBy, .selects RX6 yX6_wishBy yX6_wishBy, .initialized RX6, .code yX6_wishBy cX6_wishBy 5 (some .int), .code yX10_spotOf cX10_spotOf 1 (some .int), .initialized RX10, .static yX10_spotOf, .fieldLink RX6 46 "HookPier$Plan" "at" "[I", .methodLink RX6 89 Lib.Math.abs.name, .static Lib.Math.abs.name, .initialized "java/lang/Math", .code Lib.Math.abs.name Lib.Math.abs.code 1 (some .int), .fieldLink RX6 43 "HookPier$Plan" "kind" "[I", .fieldLink RX6 55 "HookPier$Plan" "likes" "[I", .code yX10_baitOf cX10_baitOf 1 (some .int), .static yX10_baitOf, .methodLink RX6 98 Lib.Math.min.name, .static Lib.Math.min.name, .code Lib.Math.min.name Lib.Math.min.code 2 (some .int), .methodLink RX6 102 Lib.Math.max.name, .static Lib.Math.max.name, .code Lib.Math.max.name Lib.Math.max.code 2 (some .int), .code yX10_fathomsOf cX10_fathomsOf 1 (some .int), .static yX10_fathomsOf, .fieldLink RX6 49 "HookPier$Plan" "depth" "[I"]) [14, 15, 16, 17, 18, 13, 19, 20, 21, 22, 23, 24, 25, 26, 27, 28, 29, 30, 31, 32, 33, 34, 35, 36, 37, 38, 39, 40] (by decide +kernel) (by decide +kernel) : GoodIn vX1_taker (.code yX6_wishFor cX6_wishFor 3 (some .int) :: [.fieldLink RX6 52 "HookPier$Plan" "hunger" "[I", .methodLink RX6 94 yX6_wishBy, .instanceMethod yX6_wishBy, .selects RX6 yX6_wishBy yX6_wishBy, .initialized RX6, .code yX6_wishBy cX6_wishBy 5 (some .int), .code yX10_spotOf cX10_spotOf 1 (some .int), .initialized RX10, .static yX10_spotOf, .fieldLink RX6 46 "HookPier$Plan" "at" "[I", .methodLink RX6 89 Lib.Math.abs.name, .static Lib.Math.abs.name, .initialized "java/lang/Math", .code Lib.Math.abs.name Lib.Math.abs.code 1 (some .int), .fieldLink RX6 43 "HookPier$Plan" "kind" "[I", .fieldLink RX6 55 "HookPier$Plan" "likes" "[I", .code yX10_baitOf cX10_baitOf 1 (some .int), .static yX10_baitOf, .methodLink RX6 98 Lib.Math.min.name, .static Lib.Math.min.name, .code Lib.Math.min.name Lib.Math.min.code 2 (some .int), .methodLink RX6 102 Lib.Math.max.name, .static Lib.Math.max.name, .code Lib.Math.max.name Lib.Math.max.code 2 (some .int), .code yX10_fathomsOf cX10_fathomsOf 1 (some .int), .static yX10_fathomsOf, .fieldLink RX6 49 "HookPier$Plan" "depth" "[I"])) (goodIn_sub iX1_taker_X6 (by decide +kernel)))
set_option maxHeartbeats 2000000 in
set_option maxRecDepth 100000 in
theorem kX1_taker (l : Launch) (dC : Nat → ClassId) (dI : Nat → Nat → Nat) (a0 : Nat) (a1 : Nat) (k2 : Int32) (a3 : Nat) (a4 : Nat) (a5 : Nat) (a6 : Nat) (a7 : Nat) (a8 : Nat) (g9 : Value) (g10 : Value) (g11 : Value) (g12 : Value) (g13 : Value) (g14 : Value) (k15 : Int32) (g16 : Value) (g17 : Value) (g18 : Value) (g19 : Value) (g20 : Value) (g21 : Value) (g22 : Value) (k23 : Int32) (g24 : Value) (g25 : Value) (g26 : Value) (g27 : Value) (cB28 : ClassId) (f29 : Nat → Int32) (cB30 : ClassId) (f31 : Nat → Int32) (cB32 : ClassId) (f33 : Nat → Int32) (cB34 : ClassId) (f35 : Nat → Int32) (cB36 : ClassId) (f37 : Nat → Int32) (cB38 : ClassId) (f39 : Nat → Int32) (hk15 : (0 ≤ k15.toInt ∧ k15.toInt ≤ 6)) (sz : Nat) : Met l yX1_taker vX1_taker ({ frames := 3, cells := 0, slots := 0, locals := 67 }) (PC (dC, dI) [.ref a0, .ref a1, .int k2] sz [(a0, .inr (4, [g9, g10, g11, g12, g13, g14, .int k15, g16, g17, g18, .ref a3, .ref a4, .ref a5, .ref a6, .ref a7, g19, g20, g21])), (a1, .inr (3, [g22, .int k23, g24, .ref a8, g25, g26, g27])), (a3, .inl (cB28, 6, .inl f29)), (a4, .inl (cB30, 6, .inl f31)), (a5, .inl (cB32, 6, .inl f33)), (a6, .inl (cB34, 6, .inl f35)), (a7, .inl (cB36, 6, .inl f37)), (a8, .inl (cB38, 6, .inl f39))] [(cB28, .int), (cB30, .int), (cB32, .int), (cB34, .int), (cB36, .int), (cB38, .int)]) (va_Qi (S := Int32) (fun (r : Int32) u => ((-1) ≤ r.toInt ∧ r.toInt ≤ 5)) (fun u t => BC (dC, dI) (va_A [(a0, .inr (4, [g9, g10, g11, g12, g13, g14, .int k15, g16, g17, g18, .ref a3, .ref a4, .ref a5, .ref a6, .ref a7, g19, g20, g21])), (a1, .inr (3, [g22, .int k23, g24, .ref a8, g25, g26, g27])), (a3, .inl (cB28, 6, .inl f29)), (a4, .inl (cB30, 6, .inl f31)), (a5, .inl (cB32, 6, .inl f33)), (a6, .inl (cB34, 6, .inl f35)), (a7, .inl (cB36, 6, .inl f37)), (a8, .inl (cB38, 6, .inl f39))] sz) [(a0, .inr (4, [g9, g10, g11, g12, g13, g14, .int k15, g16, g17, g18, .ref a3, .ref a4, .ref a5, .ref a6, .ref a7, g19, g20, g21])), (a1, .inr (3, [g22, .int u, g24, .ref a8, g25, g26, g27])), (a3, .inl (cB28, 6, .inl f29)), (a4, .inl (cB30, 6, .inl f31)), (a5, .inl (cB32, 6, .inl f33)), (a6, .inl (cB34, 6, .inl f35)), (a7, .inl (cB36, 6, .inl f37)), (a8, .inl (cB38, 6, .inl f39))] [] t) (va_A [(a0, .inr (4, [g9, g10, g11, g12, g13, g14, .int k15, g16, g17, g18, .ref a3, .ref a4, .ref a5, .ref a6, .ref a7, g19, g20, g21])), (a1, .inr (3, [g22, .int k23, g24, .ref a8, g25, g26, g27])), (a3, .inl (cB28, 6, .inl f29)), (a4, .inl (cB30, 6, .inl f31)), (a5, .inl (cB32, 6, .inl f33)), (a6, .inl (cB34, 6, .inl f35)), (a7, .inl (cB36, 6, .inl f37)), (a8, .inl (cB38, 6, .inl f39))] sz)) 0 0 (va_A [(a0, .inr (4, [g9, g10, g11, g12, g13, g14, .int k15, g16, g17, g18, .ref a3, .ref a4, .ref a5, .ref a6, .ref a7, g19, g20, g21])), (a1, .inr (3, [g22, .int k23, g24, .ref a8, g25, g26, g27])), (a3, .inl (cB28, 6, .inl f29)), (a4, .inl (cB30, 6, .inl f31)), (a5, .inl (cB32, 6, .inl f33)), (a6, .inl (cB34, 6, .inl f35)), (a7, .inl (cB36, 6, .inl f37)), (a8, .inl (cB38, 6, .inl f39))] sz) := by
  refine Met.ofW (cc := cX1_taker) (maxL := 4) (ret := (some .int)) (by decide) rfl ?_
  intro p e s m args below meth c s₁ B hml hv
  obtain ⟨rfl, hsz, hP, hK, hD0, hN⟩ := hv
  have hx := B.exec
  have hb := B.bytes
  have hr := B.returns
  have hts := atoms_spec (ws := vX1_taker) B.pre
  have hown : s.vm.findClass RX1 = some m.cls := findClass_of_methodNamed B.named
  have hlocks := B.notSynchronized
  subst hsz
  have hD := hD0.self (sz := s.heap.size)
  generalize hAe : va_A [(a0, .inr (4, [g9, g10, g11, g12, g13, g14, .int k15, g16, g17, g18, .ref a3, .ref a4, .ref a5, .ref a6, .ref a7, g19, g20, g21])), (a1, .inr (3, [g22, .int k23, g24, .ref a8, g25, g26, g27])), (a3, .inl (cB28, 6, .inl f29)), (a4, .inl (cB30, 6, .inl f31)), (a5, .inl (cB32, 6, .inl f33)), (a6, .inl (cB34, 6, .inl f35)), (a7, .inl (cB36, 6, .inl f37)), (a8, .inl (cB38, 6, .inl f39))] s.heap.size = A at hD ⊢
  have hA : ∀ q : Nat, s.heap.size ≤ q → A q := fun q h => by rw [← hAe]; exact Or.inr h
  have hS : va_S A s.heap s.heap [] := va_S.rf
  have hP : va_P (dC, dI) vwCl [(a0, .inr (4, [g9, g10, g11, g12, g13, g14, .int k15, g16, g17, g18, .ref a3, .ref a4, .ref a5, .ref a6, .ref a7, g19, g20, g21])), (a1, .inr (3, [g22, .int k23, g24, .ref a8, g25, g26, g27])), (a3, .inl (cB28, 6, .inl f29)), (a4, .inl (cB30, 6, .inl f31)), (a5, .inl (cB32, 6, .inl f33)), (a6, .inl (cB34, 6, .inl f35)), (a7, .inl (cB36, 6, .inl f37)), (a8, .inl (cB38, 6, .inl f39))] s.heap := hP
  have hl := lv_entry ([.ref a0, .ref a1, .int k2]) (n := 4) (Nat.le_of_ble_eq_true rfl)
  rw [lg_entry_eq]
  generalize (lg_sl ([.ref a0, .ref a1, .int k2]) ++ List.replicate (4 - (lg_sl ([.ref a0, .ref a1, .int k2])).length) Slot.unset).toArray = ls at hl ⊢
  have hl : lv_has ls 4 [(0, .ref a0), (1, .ref a1), (2, .int k2)] := hl
  refine lv_iconst (v := 0) hx hb dX1_taker_0 (by decide) ?_
  refine lv_istore_n (lv' := [(3, .int 0), (0, .ref a0), (1, .ref a1), (2, .int k2)]) hx hb dX1_taker_1 rfl hl (by decide) rfl (fun ls hl => ?_)
  have L2_64 : ∀ (n : Nat) (z62 : Int32) (z63 : Int32) (H : Heap) (locs : List Loc) (ls : Array Slot), (0 ≤ z62.toInt ∧ z62.toInt ≤ 6) → 6 - z62.toInt < (n : Int) → va_P (dC, dI) vwCl [(a0, .inr (4, [g9, g10, g11, g12, g13, g14, .int k15, g16, g17, g18, .ref a3, .ref a4, .ref a5, .ref a6, .ref a7, g19, g20, g21])), (a1, .inr (3, [g22, .int z63, g24, .ref a8, g25, g26, g27])), (a3, .inl (cB28, 6, .inl f29)), (a4, .inl (cB30, 6, .inl f31)), (a5, .inl (cB32, 6, .inl f33)), (a6, .inl (cB34, 6, .inl f35)), (a7, .inl (cB36, 6, .inl f37)), (a8, .inl (cB38, 6, .inl f39))] H → va_D A [(a0, .inr (4, [g9, g10, g11, g12, g13, g14, .int k15, g16, g17, g18, .ref a3, .ref a4, .ref a5, .ref a6, .ref a7, g19, g20, g21])), (a1, .inr (3, [g22, .int z63, g24, .ref a8, g25, g26, g27])), (a3, .inl (cB28, 6, .inl f29)), (a4, .inl (cB30, 6, .inl f31)), (a5, .inl (cB32, 6, .inl f33)), (a6, .inl (cB34, 6, .inl f35)), (a7, .inl (cB36, 6, .inl f37)), (a8, .inl (cB38, 6, .inl f39))] → va_S A s.heap H locs → lv_has ls 4 [(3, .int z62), (0, .ref a0), (1, .ref a1), (2, .int k2)] → W p l e (headSpec vX1_taker { frames := 3, cells := 0, slots := 0, locals := 67 }).room s m ([.ref a0, .ref a1, .int k2]).toArray below meth c H locs 0 0 (MQ below (va_Qi (S := Int32) (fun (r : Int32) u => ((-1) ≤ r.toInt ∧ r.toInt ≤ 5)) (fun u t => BC (dC, dI) A [(a0, .inr (4, [g9, g10, g11, g12, g13, g14, .int k15, g16, g17, g18, .ref a3, .ref a4, .ref a5, .ref a6, .ref a7, g19, g20, g21])), (a1, .inr (3, [g22, .int u, g24, .ref a8, g25, g26, g27])), (a3, .inl (cB28, 6, .inl f29)), (a4, .inl (cB30, 6, .inl f31)), (a5, .inl (cB32, 6, .inl f33)), (a6, .inl (cB34, 6, .inl f35)), (a7, .inl (cB36, 6, .inl f37)), (a8, .inl (cB38, 6, .inl f39))] [] t) A) ([.ref a0, .ref a1, .int k2]).toArray s 0 0 A) (F0 m 2 ls []) := by
    intro n
    induction n with
    | zero =>
      intro z62 z63 H locs ls b2_0 hm _ _ _ _
      exact absurd hm (by omega)
    | succ n ih2 =>
      intro z62 z63 H locs ls b2_0 hm2 hP hD hS hl
      refine lv_iload_n hx hb dX1_taker_2 rfl (lv_at hl 0 rfl) ?_
      refine lv_aload_n hx hb dX1_taker_3 rfl (lv_at hl 1 rfl) ?_
      refine va_get (D := (dC, dI)) (ci := 4) (v := .int k15) (C := RX6) (T := TX6) (N := 18) hx hb hts iX1_taker_X6 hown hK hP 0 rfl rfl 6 (by decide) (hts (.fieldLink RX1 92 "HookPier$Plan" "answers" "I") (List.mem_of_getElem? (i := 1) rfl)) (fun _ h9 => h9) rfl dX1_taker_4 ?_
      refine lv_icmp_ge (tgt := 40) hx hb dX1_taker_7 (by decide) (fun c65 => ?_) (fun c65 => ?_)
      · simp only [fa_lt, fa_le, fa_eq, ltv_0] at c65
        refine lv_iconst (v := (-1)) hx hb dX1_taker_40 (by decide) ?_
        have hP9 := hP.sub (ws' := [(a0, .inr (4, [g9, g10, g11, g12, g13, g14, .int k15, g16, g17, g18, .ref a3, .ref a4, .ref a5, .ref a6, .ref a7, g19, g20, g21])), (a1, .inr (3, [g22, .int z63, g24, .ref a8, g25, g26, g27])), (a3, .inl (cB28, 6, .inl f29)), (a4, .inl (cB30, 6, .inl f31)), (a5, .inl (cB32, 6, .inl f33)), (a6, .inl (cB34, 6, .inl f35)), (a7, .inl (cB36, 6, .inl f37)), (a8, .inl (cB38, 6, .inl f39))]) [0, 1, 2, 3, 4, 5, 6, 7] rfl
        have hD9 := hD.sub (ws' := [(a0, .inr (4, [g9, g10, g11, g12, g13, g14, .int k15, g16, g17, g18, .ref a3, .ref a4, .ref a5, .ref a6, .ref a7, g19, g20, g21])), (a1, .inr (3, [g22, .int z63, g24, .ref a8, g25, g26, g27])), (a3, .inl (cB28, 6, .inl f29)), (a4, .inl (cB30, 6, .inl f31)), (a5, .inl (cB32, 6, .inl f33)), (a6, .inl (cB34, 6, .inl f35)), (a7, .inl (cB36, 6, .inl f37)), (a8, .inl (cB38, 6, .inl f39))]) [0, 1, 2, 3, 4, 5, 6, 7] (by decide) rfl
        have hK9 := hK.sub (tys' := []) [] rfl
        exact W.iret (v := (-1)) hx hb hr (fun t ht hW => ⟨⟨(-1), z63, rfl, (by first | trivial | omega | (simp only [ltv_m1, ltv_0]; omega)), by rw [ht]; exact hP9, va_K.moved hW.alike hK9, hD9⟩, hS.F ht⟩) hS.2.2 dX1_taker_41
      · simp only [fa_lt, fa_le, fa_eq, ltv_0] at c65
        refine lv_aload_n hx hb dX1_taker_10 rfl (lv_at hl 2 rfl) ?_
        refine va_get (D := (dC, dI)) (ci := 3) (v := .ref a8) (C := RX4) (T := TX4) (N := 7) hx hb hts iX1_taker_X4 hown hK hP 1 rfl rfl 3 (by decide) (hts (.fieldLink RX1 95 "HookPier$Now" "stage" "[I") (List.mem_of_getElem? (i := 2) rfl)) (fun _ h9 => h9) rfl dX1_taker_11 ?_
        refine lv_iload_n hx hb dX1_taker_14 rfl (lv_at hl 0 rfl) ?_
        refine va_iald hx hb hK hP 7 5 rfl rfl (vp_in_iff.mpr (by omega)) dX1_taker_15 ?_
        refine lv_topi (fun z66 ez66 => ?_)
        clear ez66
        refine lv_if_ne (tgt := 34) hx hb dX1_taker_16 (by decide) (fun c67 => ?_) (fun c67 => ?_)
        · simp only [fa_lt, fa_le, fa_eq, ltv_0] at c67
          obtain ⟨z68, ez68⟩ : ∃ y : Int32, y = z62 + 1 := ⟨_, rfl⟩
          have tz68 : z68.toInt = z62.toInt + 1 := by rw [ez68, iadd_t (by simp only [ltv_1]; omega) (by simp only [ltv_1]; omega)]; simp only [ltv_1]
          refine lv_iinc (v := z68) (lv' := [(3, .int z68), (0, .ref a0), (1, .ref a1), (2, .int k2)]) hx hb dX1_taker_34 hl (k := 0) rfl (by rw [ez68]; rfl) (by decide) rfl (fun ls hl => ?_)
          refine lv_goto (tgt := 2) hx hb dX1_taker_37 (by decide) ?_
          exact ih2 z68 z63 H locs ls (by first | omega | (simp only [ltv_0]; omega)) (by first | omega | (simp only [ltv_0]; omega)) hP hD hS (lv_sub hl [0, 1, 2, 3] rfl)
        · simp only [fa_lt, fa_le, fa_eq, ltv_0] at c67
          refine lv_aload_n hx hb dX1_taker_19 rfl (lv_at hl 2 rfl) ?_
          refine cl_i (wc := [(a1, .inr (3, [g22, .int z63, g24, .ref a8, g25, g26, g27]))]) (wr := [(a0, .inr (4, [g9, g10, g11, g12, g13, g14, .int k15, g16, g17, g18, .ref a3, .ref a4, .ref a5, .ref a6, .ref a7, g19, g20, g21])), (a3, .inl (cB28, 6, .inl f29)), (a4, .inl (cB30, 6, .inl f31)), (a5, .inl (cB32, 6, .inl f33)), (a6, .inl (cB34, 6, .inl f35)), (a7, .inl (cB36, 6, .inl f37)), (a8, .inl (cB38, 6, .inl f39))]) (va_runV (As := []) (rest := []) ⟨hx, hb, hml, hown, hts⟩ (kX4_draw l dC dI a1 (g22) z63 (g24) (.ref a8) (g25) (g26) (g27)  H.size) (cwV 0 hts gX1_taker_0 rfl rfl rfl (by decide +kernel) ⟨Nat.le_of_ble_eq_true rfl, Nat.le_of_ble_eq_true rfl⟩) (PV (hP.sub (ws' := [(a1, .inr (3, [g22, .int z63, g24, .ref a8, g25, g26, g27]))]) [1] rfl) (hK.sub (tys' := []) [] rfl) (hD.sub (ws' := [(a1, .inr (3, [g22, .int z63, g24, .ref a8, g25, g26, g27]))]) [1] (by decide) rfl) hN 0 rfl rfl) rfl rfl hl.1 rfl (lv_room (Nat.le_of_ble_eq_true rfl)) dX1_taker_20 ⟨Nat.le_of_ble_eq_true rfl, Nat.le_of_ble_eq_true rfl⟩) hP hD hK hS hA [1] [0, 2, 3, 4, 5, 6, 7] rfl rfl (by decide) (by decide) (fun z70 z69 H locs hw hP hD hK hS => ?_)
          have b71 := hw
          have hP : va_P (dC, dI) vwCl [(a0, .inr (4, [g9, g10, g11, g12, g13, g14, .int k15, g16, g17, g18, .ref a3, .ref a4, .ref a5, .ref a6, .ref a7, g19, g20, g21])), (a3, .inl (cB28, 6, .inl f29)), (a4, .inl (cB30, 6, .inl f31)), (a5, .inl (cB32, 6, .inl f33)), (a6, .inl (cB34, 6, .inl f35)), (a7, .inl (cB36, 6, .inl f37)), (a8, .inl (cB38, 6, .inl f39)), (a1, .inr (3, [g22, .int z69, g24, .ref a8, g25, g26, g27]))] H := hP
          have hD : va_D A [(a0, .inr (4, [g9, g10, g11, g12, g13, g14, .int k15, g16, g17, g18, .ref a3, .ref a4, .ref a5, .ref a6, .ref a7, g19, g20, g21])), (a3, .inl (cB28, 6, .inl f29)), (a4, .inl (cB30, 6, .inl f31)), (a5, .inl (cB32, 6, .inl f33)), (a6, .inl (cB34, 6, .inl f35)), (a7, .inl (cB36, 6, .inl f37)), (a8, .inl (cB38, 6, .inl f39)), (a1, .inr (3, [g22, .int z69, g24, .ref a8, g25, g26, g27]))] := hD
          have hK : va_K (dC, dI) vwCl [(cB28, .int), (cB30, .int), (cB32, .int), (cB34, .int), (cB36, .int), (cB38, .int)] s := hK
          refine lv_aload_n hx hb dX1_taker_23 rfl (lv_at hl 1 rfl) ?_
          refine lv_iload_n hx hb dX1_taker_24 rfl (lv_at hl 0 rfl) ?_
          refine lv_iload_n hx hb dX1_taker_25 rfl (lv_at hl 3 rfl) ?_
          refine cl_i (wc := [(a0, .inr (4, [g9, g10, g11, g12, g13, g14, .int k15, g16, g17, g18, .ref a3, .ref a4, .ref a5, .ref a6, .ref a7, g19, g20, g21])), (a3, .inl (cB28, 6, .inl f29)), (a4, .inl (cB30, 6, .inl f31)), (a5, .inl (cB32, 6, .inl f33)), (a6, .inl (cB34, 6, .inl f35)), (a7, .inl (cB36, 6, .inl f37))]) (wr := [(a8, .inl (cB38, 6, .inl f39)), (a1, .inr (3, [g22, .int z69, g24, .ref a8, g25, g26, g27]))]) (va_runV (As := [.int z62, .int k2]) (rest := [.int z70]) ⟨hx, hb, hml, hown, hts⟩ (kX6_wishFor l dC dI a0 z62 k2 a3 a4 a5 a6 a7 (g9) (g10) (g11) (g12) (g13) (g14) (.int k15) (g16) (g17) (g18) (g19) (g20) (g21) cB28 f29 cB30 f31 cB32 f33 cB34 f35 cB36 f37 (by first | omega | (simp only [ltv_0]; omega)) H.size) (cwV 2 hts gX1_taker_1 rfl rfl rfl (by decide +kernel) ⟨Nat.le_of_ble_eq_true rfl, Nat.le_of_ble_eq_true rfl⟩) (PV (hP.sub (ws' := [(a0, .inr (4, [g9, g10, g11, g12, g13, g14, .int k15, g16, g17, g18, .ref a3, .ref a4, .ref a5, .ref a6, .ref a7, g19, g20, g21])), (a3, .inl (cB28, 6, .inl f29)), (a4, .inl (cB30, 6, .inl f31)), (a5, .inl (cB32, 6, .inl f33)), (a6, .inl (cB34, 6, .inl f35)), (a7, .inl (cB36, 6, .inl f37))]) [0, 1, 2, 3, 4, 5] rfl) (hK.sub (tys' := [(cB28, .int), (cB30, .int), (cB32, .int), (cB34, .int), (cB36, .int)]) [0, 1, 2, 3, 4] rfl) (hD.sub (ws' := [(a0, .inr (4, [g9, g10, g11, g12, g13, g14, .int k15, g16, g17, g18, .ref a3, .ref a4, .ref a5, .ref a6, .ref a7, g19, g20, g21])), (a3, .inl (cB28, 6, .inl f29)), (a4, .inl (cB30, 6, .inl f31)), (a5, .inl (cB32, 6, .inl f33)), (a6, .inl (cB34, 6, .inl f35)), (a7, .inl (cB36, 6, .inl f37))]) [0, 1, 2, 3, 4, 5] (by decide) rfl) hN 0 rfl rfl) rfl rfl hl.1 rfl (lv_room (Nat.le_of_ble_eq_true rfl)) dX1_taker_26 ⟨Nat.le_of_ble_eq_true rfl, Nat.le_of_ble_eq_true rfl⟩) hP hD hK hS hA [0, 1, 2, 3, 4, 5] [6, 7] rfl rfl (by decide) (by decide) (fun z72 _u H locs hw hP hD hK hS => ?_)
          have b73 := hw
          have hP : va_P (dC, dI) vwCl [(a8, .inl (cB38, 6, .inl f39)), (a1, .inr (3, [g22, .int z69, g24, .ref a8, g25, g26, g27])), (a0, .inr (4, [g9, g10, g11, g12, g13, g14, .int k15, g16, g17, g18, .ref a3, .ref a4, .ref a5, .ref a6, .ref a7, g19, g20, g21])), (a3, .inl (cB28, 6, .inl f29)), (a4, .inl (cB30, 6, .inl f31)), (a5, .inl (cB32, 6, .inl f33)), (a6, .inl (cB34, 6, .inl f35)), (a7, .inl (cB36, 6, .inl f37))] H := hP
          have hD : va_D A [(a8, .inl (cB38, 6, .inl f39)), (a1, .inr (3, [g22, .int z69, g24, .ref a8, g25, g26, g27])), (a0, .inr (4, [g9, g10, g11, g12, g13, g14, .int k15, g16, g17, g18, .ref a3, .ref a4, .ref a5, .ref a6, .ref a7, g19, g20, g21])), (a3, .inl (cB28, 6, .inl f29)), (a4, .inl (cB30, 6, .inl f31)), (a5, .inl (cB32, 6, .inl f33)), (a6, .inl (cB34, 6, .inl f35)), (a7, .inl (cB36, 6, .inl f37))] := hD
          have hK : va_K (dC, dI) vwCl [(cB28, .int), (cB30, .int), (cB32, .int), (cB34, .int), (cB36, .int), (cB38, .int)] s := hK
          refine lv_icmp_ge (tgt := 34) hx hb dX1_taker_29 (by decide) (fun c74 => ?_) (fun c74 => ?_)
          · simp only [fa_lt, fa_le, fa_eq, ltv_0] at c74
            obtain ⟨z75, ez75⟩ : ∃ y : Int32, y = z62 + 1 := ⟨_, rfl⟩
            have tz75 : z75.toInt = z62.toInt + 1 := by rw [ez75, iadd_t (by simp only [ltv_1]; omega) (by simp only [ltv_1]; omega)]; simp only [ltv_1]
            refine lv_iinc (v := z75) (lv' := [(3, .int z75), (0, .ref a0), (1, .ref a1), (2, .int k2)]) hx hb dX1_taker_34 hl (k := 0) rfl (by rw [ez75]; rfl) (by decide) rfl (fun ls hl => ?_)
            refine lv_goto (tgt := 2) hx hb dX1_taker_37 (by decide) ?_
            exact ih2 z75 z69 H locs ls (by first | omega | (simp only [ltv_0]; omega)) (by first | omega | (simp only [ltv_0]; omega)) (hP.sub (ws' := [(a0, .inr (4, [g9, g10, g11, g12, g13, g14, .int k15, g16, g17, g18, .ref a3, .ref a4, .ref a5, .ref a6, .ref a7, g19, g20, g21])), (a1, .inr (3, [g22, .int z69, g24, .ref a8, g25, g26, g27])), (a3, .inl (cB28, 6, .inl f29)), (a4, .inl (cB30, 6, .inl f31)), (a5, .inl (cB32, 6, .inl f33)), (a6, .inl (cB34, 6, .inl f35)), (a7, .inl (cB36, 6, .inl f37)), (a8, .inl (cB38, 6, .inl f39))]) [2, 1, 3, 4, 5, 6, 7, 0] rfl) (hD.sub (ws' := [(a0, .inr (4, [g9, g10, g11, g12, g13, g14, .int k15, g16, g17, g18, .ref a3, .ref a4, .ref a5, .ref a6, .ref a7, g19, g20, g21])), (a1, .inr (3, [g22, .int z69, g24, .ref a8, g25, g26, g27])), (a3, .inl (cB28, 6, .inl f29)), (a4, .inl (cB30, 6, .inl f31)), (a5, .inl (cB32, 6, .inl f33)), (a6, .inl (cB34, 6, .inl f35)), (a7, .inl (cB36, 6, .inl f37)), (a8, .inl (cB38, 6, .inl f39))]) [2, 1, 3, 4, 5, 6, 7, 0] (by decide) rfl) hS (lv_sub hl [0, 1, 2, 3] rfl)
          · simp only [fa_lt, fa_le, fa_eq, ltv_0] at c74
            refine lv_iload_n hx hb dX1_taker_32 rfl (lv_at hl 0 rfl) ?_
            have hP9 := hP.sub (ws' := [(a0, .inr (4, [g9, g10, g11, g12, g13, g14, .int k15, g16, g17, g18, .ref a3, .ref a4, .ref a5, .ref a6, .ref a7, g19, g20, g21])), (a1, .inr (3, [g22, .int z69, g24, .ref a8, g25, g26, g27])), (a3, .inl (cB28, 6, .inl f29)), (a4, .inl (cB30, 6, .inl f31)), (a5, .inl (cB32, 6, .inl f33)), (a6, .inl (cB34, 6, .inl f35)), (a7, .inl (cB36, 6, .inl f37)), (a8, .inl (cB38, 6, .inl f39))]) [2, 1, 3, 4, 5, 6, 7, 0] rfl
            have hD9 := hD.sub (ws' := [(a0, .inr (4, [g9, g10, g11, g12, g13, g14, .int k15, g16, g17, g18, .ref a3, .ref a4, .ref a5, .ref a6, .ref a7, g19, g20, g21])), (a1, .inr (3, [g22, .int z69, g24, .ref a8, g25, g26, g27])), (a3, .inl (cB28, 6, .inl f29)), (a4, .inl (cB30, 6, .inl f31)), (a5, .inl (cB32, 6, .inl f33)), (a6, .inl (cB34, 6, .inl f35)), (a7, .inl (cB36, 6, .inl f37)), (a8, .inl (cB38, 6, .inl f39))]) [2, 1, 3, 4, 5, 6, 7, 0] (by decide) rfl
            have hK9 := hK.sub (tys' := []) [] rfl
            exact W.iret (v := z62) hx hb hr (fun t ht hW => ⟨⟨z62, z69, rfl, (by first | trivial | omega | (simp only [ltv_0]; omega)), by rw [ht]; exact hP9, va_K.moved hW.alike hK9, hD9⟩, hS.F ht⟩) hS.2.2 dX1_taker_33
  exact L2_64 7 (0) k23 s.heap _ ls (by first | omega | (simp only [ltv_0]; omega)) (by first | omega | (simp only [ltv_0]; omega)) hP hD hS (lv_sub hl [0, 1, 2, 3] rfl)
theorem dX1_taken_0 : decode cX1_taken 0 = .ok (.aload_n 2, 1) := by decide +kernel
theorem dX1_taken_1 : decode cX1_taken 1 = .ok (.getfield 68, 3) := by decide +kernel
theorem dX1_taken_11 : decode cX1_taken 11 = .ok (.iload 4, 2) := by decide +kernel
theorem dX1_taken_13 : decode cX1_taken 13 = .ok (.iaload, 1) := by decide +kernel
theorem dX1_taken_14 : decode cX1_taken 14 = .ok (.iconst 2, 1) := by decide +kernel
theorem dX1_taken_15 : decode cX1_taken 15 = .ok (.if_icmp .ne 15, 3) := by decide +kernel
theorem dX1_taken_18 : decode cX1_taken 18 = .ok (.aload_n 0, 1) := by decide +kernel
theorem dX1_taken_19 : decode cX1_taken 19 = .ok (.dup, 1) := by decide +kernel
theorem dX1_taken_20 : decode cX1_taken 20 = .ok (.getfield 22, 3) := by decide +kernel
theorem dX1_taken_23 : decode cX1_taken 23 = .ok (.iconst 1, 1) := by decide +kernel
theorem dX1_taken_24 : decode cX1_taken 24 = .ok (.iadd, 1) := by decide +kernel
theorem dX1_taken_25 : decode cX1_taken 25 = .ok (.putfield 22, 3) := by decide +kernel
theorem dX1_taken_28 : decode cX1_taken 28 = .ok (.iconst 0, 1) := by decide +kernel
theorem dX1_taken_29 : decode cX1_taken 29 = .ok (.ireturn, 1) := by decide +kernel
theorem dX1_taken_30 : decode cX1_taken 30 = .ok (.aload_n 2, 1) := by decide +kernel
theorem dX1_taken_31 : decode cX1_taken 31 = .ok (.iload 4, 2) := by decide +kernel
theorem dX1_taken_33 : decode cX1_taken 33 = .ok (.iload_n 3, 1) := by decide +kernel
theorem dX1_taken_34 : decode cX1_taken 34 = .ok (.invokevirtual 89, 3) := by decide +kernel
theorem dX1_taken_37 : decode cX1_taken 37 = .ok (.iconst 1, 1) := by decide +kernel
theorem dX1_taken_38 : decode cX1_taken 38 = .ok (.iload 4, 2) := by decide +kernel
theorem dX1_taken_4 : decode cX1_taken 4 = .ok (.iload_n 3, 1) := by decide +kernel
theorem dX1_taken_40 : decode cX1_taken 40 = .ok (.ishl, 1) := by decide +kernel
theorem dX1_taken_41 : decode cX1_taken 41 = .ok (.ireturn, 1) := by decide +kernel
theorem dX1_taken_5 : decode cX1_taken 5 = .ok (.iconst (-1), 1) := by decide +kernel
theorem dX1_taken_6 : decode cX1_taken 6 = .ok (.iastore, 1) := by decide +kernel
theorem dX1_taken_7 : decode cX1_taken 7 = .ok (.aload_n 1, 1) := by decide +kernel
theorem dX1_taken_8 : decode cX1_taken 8 = .ok (.getfield 86, 3) := by decide +kernel
def vX1_taken : List Cond := .code yX1_taken cX1_taken 5 (some .int) :: ([.fieldLink RX1 68 "HookPier$Now" "line" "[I", .fieldLink RX1 86 "HookPier$Plan" "kind" "[I", .methodLink RX1 89 yX4_land, .instanceMethod yX4_land, .selects RX4 yX4_land yX4_land, .initialized RX4, .code yX4_land cX4_land 3 none, .fieldLink RX4 21 "HookPier$Now" "stage" "[I", .fieldLink RX4 25 "HookPier$Now" "landedOn" "[I", .fieldLink RX4 9 "HookPier$Now" "today" "I", .fieldLink RX4 28 "HookPier$Now" "landedBy" "[I", .fieldLink RX1 22 "HookPier$Days" "crabTakes" "I"] ++ wsX40 ++ wsX60 ++ wsX10)
theorem iX1_taken_X4 : ∀ w ∈ wsX40, w ∈ vX1_taken := fun _ h => List.mem_cons_of_mem _ (List.mem_append_left _ (List.mem_append_left _ (List.mem_append_right _ h)))
theorem iX1_taken_X6 : ∀ w ∈ wsX60, w ∈ vX1_taken := fun _ h => List.mem_cons_of_mem _ (List.mem_append_left _ (List.mem_append_right _ h))
theorem iX1_taken_X1 : ∀ w ∈ wsX10, w ∈ vX1_taken := fun _ h => List.mem_cons_of_mem _ (List.mem_append_right _ h)
set_option maxRecDepth 20000 in
theorem gX1_taken_0 : GoodIn vX1_taken (wsV RX1 89 RX4 yX4_land vX4_land) := goodIn_app (goodIn_r [.methodLink RX1 89 yX4_land, .instanceMethod yX4_land, .selects RX4 yX4_land yX4_land, .initialized RX4] [3, 4, 5, 6] (by decide +kernel) (by decide +kernel)) (goodIn_ca (goodIn_r (.code yX4_land cX4_land 3 none :: [.fieldLink RX4 21 "HookPier$Now" "stage" "[I", .fieldLink RX4 25 "HookPier$Now" "landedOn" "[I", .fieldLink RX4 9 "HookPier$Now" "today" "I", .fieldLink RX4 28 "HookPier$Now" "landedBy" "[I"]) [7, 8, 9, 10, 11] (by decide +kernel) (by decide +kernel) : GoodIn vX1_taken (.code yX4_land cX4_land 3 none :: [.fieldLink RX4 21 "HookPier$Now" "stage" "[I", .fieldLink RX4 25 "HookPier$Now" "landedOn" "[I", .fieldLink RX4 9 "HookPier$Now" "today" "I", .fieldLink RX4 28 "HookPier$Now" "landedBy" "[I"])) (goodIn_sub iX1_taken_X4 (by decide +kernel)))
set_option maxHeartbeats 2000000 in
set_option maxRecDepth 100000 in
theorem kX1_taken (l : Launch) (dC : Nat → ClassId) (dI : Nat → Nat → Nat) (a0 : Nat) (a1 : Nat) (a2 : Nat) (k3 : Int32) (k4 : Int32) (a5 : Nat) (a6 : Nat) (a7 : Nat) (a8 : Nat) (a9 : Nat) (g10 : Value) (g11 : Value) (k12 : Int32) (g13 : Value) (g14 : Value) (g15 : Value) (g16 : Value) (g17 : Value) (g18 : Value) (g19 : Value) (g20 : Value) (g21 : Value) (g22 : Value) (g23 : Value) (g24 : Value) (g25 : Value) (g26 : Value) (g27 : Value) (g28 : Value) (g29 : Value) (g30 : Value) (k31 : Int32) (g32 : Value) (g33 : Value) (cB34 : ClassId) (f35 : Nat → Int32) (cB36 : ClassId) (f37 : Nat → Int32) (cB38 : ClassId) (f39 : Nat → Int32) (cB40 : ClassId) (f41 : Nat → Int32) (cB42 : ClassId) (f43 : Nat → Int32) (hk3 : (0 ≤ k3.toInt ∧ k3.toInt ≤ 4)) (hk4 : (0 ≤ k4.toInt ∧ k4.toInt ≤ 5)) (sz : Nat) : Met l yX1_taken vX1_taken ({ frames := 1, cells := 0, slots := 0, locals := 22 }) (PC (dC, dI) [.ref a0, .ref a1, .ref a2, .int k3, .int k4] sz [(a0, .inr (1, [g10, g11, .int k12, g13])), (a1, .inr (4, [g14, g15, g16, g17, g18, g19, g20, g21, g22, g23, .ref a5, g24, g25, g26, g27, g28, g29, g30])), (a2, .inr (3, [.int k31, g32, g33, .ref a6, .ref a7, .ref a8, .ref a9])), (a5, .inl (cB34, 6, .inl f35)), (a6, .inl (cB36, 6, .inl f37)), (a7, .inl (cB38, 6, .inl f39)), (a8, .inl (cB40, 6, .inl f41)), (a9, .inl (cB42, 5, .inl f43))] [(cB34, .int), (cB36, .int), (cB38, .int), (cB40, .int), (cB42, .int)]) (va_Qi (S := Int32 × (Nat → Int32) × (Nat → Int32) × (Nat → Int32) × (Nat → Int32)) (fun (r : Int32) u => (0 ≤ r.toInt ∧ r.toInt ≤ 32)) (fun u t => BC (dC, dI) (va_A [(a0, .inr (1, [g10, g11, .int k12, g13])), (a1, .inr (4, [g14, g15, g16, g17, g18, g19, g20, g21, g22, g23, .ref a5, g24, g25, g26, g27, g28, g29, g30])), (a2, .inr (3, [.int k31, g32, g33, .ref a6, .ref a7, .ref a8, .ref a9])), (a5, .inl (cB34, 6, .inl f35)), (a6, .inl (cB36, 6, .inl f37)), (a7, .inl (cB38, 6, .inl f39)), (a8, .inl (cB40, 6, .inl f41)), (a9, .inl (cB42, 5, .inl f43))] sz) [(a0, .inr (1, [g10, g11, .int (u.1), g13])), (a1, .inr (4, [g14, g15, g16, g17, g18, g19, g20, g21, g22, g23, .ref a5, g24, g25, g26, g27, g28, g29, g30])), (a2, .inr (3, [.int k31, g32, g33, .ref a6, .ref a7, .ref a8, .ref a9])), (a5, .inl (cB34, 6, .inl f35)), (a6, .inl (cB36, 6, .inl (u.2.1))), (a7, .inl (cB38, 6, .inl (u.2.2.1))), (a8, .inl (cB40, 6, .inl (u.2.2.2.1))), (a9, .inl (cB42, 5, .inl (u.2.2.2.2)))] [] t) (va_A [(a0, .inr (1, [g10, g11, .int k12, g13])), (a1, .inr (4, [g14, g15, g16, g17, g18, g19, g20, g21, g22, g23, .ref a5, g24, g25, g26, g27, g28, g29, g30])), (a2, .inr (3, [.int k31, g32, g33, .ref a6, .ref a7, .ref a8, .ref a9])), (a5, .inl (cB34, 6, .inl f35)), (a6, .inl (cB36, 6, .inl f37)), (a7, .inl (cB38, 6, .inl f39)), (a8, .inl (cB40, 6, .inl f41)), (a9, .inl (cB42, 5, .inl f43))] sz)) 0 0 (va_A [(a0, .inr (1, [g10, g11, .int k12, g13])), (a1, .inr (4, [g14, g15, g16, g17, g18, g19, g20, g21, g22, g23, .ref a5, g24, g25, g26, g27, g28, g29, g30])), (a2, .inr (3, [.int k31, g32, g33, .ref a6, .ref a7, .ref a8, .ref a9])), (a5, .inl (cB34, 6, .inl f35)), (a6, .inl (cB36, 6, .inl f37)), (a7, .inl (cB38, 6, .inl f39)), (a8, .inl (cB40, 6, .inl f41)), (a9, .inl (cB42, 5, .inl f43))] sz) := by
  refine Met.ofW (cc := cX1_taken) (maxL := 5) (ret := (some .int)) (by decide) rfl ?_
  intro p e s m args below meth c s₁ B hml hv
  obtain ⟨rfl, hsz, hP, hK, hD0, hN⟩ := hv
  have hx := B.exec
  have hb := B.bytes
  have hr := B.returns
  have hts := atoms_spec (ws := vX1_taken) B.pre
  have hown : s.vm.findClass RX1 = some m.cls := findClass_of_methodNamed B.named
  have hlocks := B.notSynchronized
  subst hsz
  have hD := hD0.self (sz := s.heap.size)
  generalize hAe : va_A [(a0, .inr (1, [g10, g11, .int k12, g13])), (a1, .inr (4, [g14, g15, g16, g17, g18, g19, g20, g21, g22, g23, .ref a5, g24, g25, g26, g27, g28, g29, g30])), (a2, .inr (3, [.int k31, g32, g33, .ref a6, .ref a7, .ref a8, .ref a9])), (a5, .inl (cB34, 6, .inl f35)), (a6, .inl (cB36, 6, .inl f37)), (a7, .inl (cB38, 6, .inl f39)), (a8, .inl (cB40, 6, .inl f41)), (a9, .inl (cB42, 5, .inl f43))] s.heap.size = A at hD ⊢
  have hA : ∀ q : Nat, s.heap.size ≤ q → A q := fun q h => by rw [← hAe]; exact Or.inr h
  have hS : va_S A s.heap s.heap [] := va_S.rf
  have hP : va_P (dC, dI) vwCl [(a0, .inr (1, [g10, g11, .int k12, g13])), (a1, .inr (4, [g14, g15, g16, g17, g18, g19, g20, g21, g22, g23, .ref a5, g24, g25, g26, g27, g28, g29, g30])), (a2, .inr (3, [.int k31, g32, g33, .ref a6, .ref a7, .ref a8, .ref a9])), (a5, .inl (cB34, 6, .inl f35)), (a6, .inl (cB36, 6, .inl f37)), (a7, .inl (cB38, 6, .inl f39)), (a8, .inl (cB40, 6, .inl f41)), (a9, .inl (cB42, 5, .inl f43))] s.heap := hP
  have hl := lv_entry ([.ref a0, .ref a1, .ref a2, .int k3, .int k4]) (n := 5) (Nat.le_of_ble_eq_true rfl)
  rw [lg_entry_eq]
  generalize (lg_sl ([.ref a0, .ref a1, .ref a2, .int k3, .int k4]) ++ List.replicate (5 - (lg_sl ([.ref a0, .ref a1, .ref a2, .int k3, .int k4])).length) Slot.unset).toArray = ls at hl ⊢
  have hl : lv_has ls 5 [(0, .ref a0), (1, .ref a1), (2, .ref a2), (3, .int k3), (4, .int k4)] := hl
  refine lv_aload_n hx hb dX1_taken_0 rfl (lv_at hl 2 rfl) ?_
  refine va_get (D := (dC, dI)) (ci := 3) (v := .ref a9) (C := RX4) (T := TX4) (N := 7) hx hb hts iX1_taken_X4 hown hK hP 2 rfl rfl 6 (by decide) (hts (.fieldLink RX1 68 "HookPier$Now" "line" "[I") (List.mem_of_getElem? (i := 1) rfl)) (fun _ h9 => h9) rfl dX1_taken_1 ?_
  refine lv_iload_n hx hb dX1_taken_4 rfl (lv_at hl 3 rfl) ?_
  refine lv_iconst (v := (-1)) hx hb dX1_taken_5 (by decide) ?_
  refine va_iast hx hb hK hP hD hS 7 4 rfl rfl (vp_in_iff.mpr (by omega)) dX1_taken_6 (fun H locs hP hD hS => ?_)
  have hP : va_P (dC, dI) vwCl [(a0, .inr (1, [g10, g11, .int k12, g13])), (a1, .inr (4, [g14, g15, g16, g17, g18, g19, g20, g21, g22, g23, .ref a5, g24, g25, g26, g27, g28, g29, g30])), (a2, .inr (3, [.int k31, g32, g33, .ref a6, .ref a7, .ref a8, .ref a9])), (a5, .inl (cB34, 6, .inl f35)), (a6, .inl (cB36, 6, .inl f37)), (a7, .inl (cB38, 6, .inl f39)), (a8, .inl (cB40, 6, .inl f41)), (a9, .inl (cB42, 5, .inl (upd f43 (k3 : Int32).toNatClampNeg (-1))))] H := hP
  have hD : va_D A [(a0, .inr (1, [g10, g11, .int k12, g13])), (a1, .inr (4, [g14, g15, g16, g17, g18, g19, g20, g21, g22, g23, .ref a5, g24, g25, g26, g27, g28, g29, g30])), (a2, .inr (3, [.int k31, g32, g33, .ref a6, .ref a7, .ref a8, .ref a9])), (a5, .inl (cB34, 6, .inl f35)), (a6, .inl (cB36, 6, .inl f37)), (a7, .inl (cB38, 6, .inl f39)), (a8, .inl (cB40, 6, .inl f41)), (a9, .inl (cB42, 5, .inl (upd f43 (k3 : Int32).toNatClampNeg (-1))))] := hD
  generalize upd f43 (k3 : Int32).toNatClampNeg (-1) = f1 at hP hD
  refine lv_aload_n hx hb dX1_taken_7 rfl (lv_at hl 1 rfl) ?_
  refine va_get (D := (dC, dI)) (ci := 4) (v := .ref a5) (C := RX6) (T := TX6) (N := 18) hx hb hts iX1_taken_X6 hown hK hP 1 rfl rfl 10 (by decide) (hts (.fieldLink RX1 86 "HookPier$Plan" "kind" "[I") (List.mem_of_getElem? (i := 2) rfl)) (fun _ h9 => h9) rfl dX1_taken_8 ?_
  refine lv_iload hx hb dX1_taken_11 (lv_at hl 4 rfl) ?_
  refine va_iald hx hb hK hP 3 0 rfl rfl (vp_in_iff.mpr (by omega)) dX1_taken_13 ?_
  refine lv_topi (fun z2 ez2 => ?_)
  clear ez2
  refine lv_iconst (v := 2) hx hb dX1_taken_14 (by decide) ?_
  refine lv_icmp_ne (tgt := 30) hx hb dX1_taken_15 (by decide) (fun c3 => ?_) (fun c3 => ?_)
  · simp only [fa_lt, fa_le, fa_eq, ltv_0, ltv_2] at c3
    refine lv_aload_n hx hb dX1_taken_30 rfl (lv_at hl 2 rfl) ?_
    refine lv_iload hx hb dX1_taken_31 (lv_at hl 4 rfl) ?_
    refine lv_iload_n hx hb dX1_taken_33 rfl (lv_at hl 3 rfl) ?_
    refine cl_v (wc := [(a2, .inr (3, [.int k31, g32, g33, .ref a6, .ref a7, .ref a8, .ref a9])), (a6, .inl (cB36, 6, .inl f37)), (a7, .inl (cB38, 6, .inl f39)), (a8, .inl (cB40, 6, .inl f41))]) (wr := [(a0, .inr (1, [g10, g11, .int k12, g13])), (a1, .inr (4, [g14, g15, g16, g17, g18, g19, g20, g21, g22, g23, .ref a5, g24, g25, g26, g27, g28, g29, g30])), (a5, .inl (cB34, 6, .inl f35)), (a9, .inl (cB42, 5, .inl f1))]) (va_runV (As := [.int k4, .int k3]) (rest := []) ⟨hx, hb, hml, hown, hts⟩ (kX4_land l dC dI a2 k4 k3 a6 a7 a8 k31 (g32) (g33) (.ref a9) cB36 f37 cB38 f39 cB40 f41 (by first | omega | (simp only [ltv_0]; omega)) H.size) (cwV 2 hts gX1_taken_0 rfl rfl rfl (by decide +kernel) ⟨Nat.le_of_ble_eq_true rfl, Nat.le_of_ble_eq_true rfl⟩) (PV (hP.sub (ws' := [(a2, .inr (3, [.int k31, g32, g33, .ref a6, .ref a7, .ref a8, .ref a9])), (a6, .inl (cB36, 6, .inl f37)), (a7, .inl (cB38, 6, .inl f39)), (a8, .inl (cB40, 6, .inl f41))]) [2, 4, 5, 6] rfl) (hK.sub (tys' := [(cB36, .int), (cB38, .int), (cB40, .int)]) [1, 2, 3] rfl) (hD.sub (ws' := [(a2, .inr (3, [.int k31, g32, g33, .ref a6, .ref a7, .ref a8, .ref a9])), (a6, .inl (cB36, 6, .inl f37)), (a7, .inl (cB38, 6, .inl f39)), (a8, .inl (cB40, 6, .inl f41))]) [2, 4, 5, 6] (by decide) rfl) hN 0 rfl rfl) rfl rfl hl.1 rfl (lv_room (Nat.le_of_ble_eq_true rfl)) dX1_taken_34 ⟨Nat.le_of_ble_eq_true rfl, Nat.le_of_ble_eq_true rfl⟩) hP hD hK hS hA [2, 4, 5, 6] [0, 1, 3, 7] rfl rfl (by decide) (by decide) (fun u H locs hw hP hD hK hS => ?_)
    obtain ⟨f4, f5, f6⟩ := u
    have b7 := hw
    have hP : va_P (dC, dI) vwCl [(a0, .inr (1, [g10, g11, .int k12, g13])), (a1, .inr (4, [g14, g15, g16, g17, g18, g19, g20, g21, g22, g23, .ref a5, g24, g25, g26, g27, g28, g29, g30])), (a5, .inl (cB34, 6, .inl f35)), (a9, .inl (cB42, 5, .inl f1)), (a2, .inr (3, [.int k31, g32, g33, .ref a6, .ref a7, .ref a8, .ref a9])), (a6, .inl (cB36, 6, .inl f4)), (a7, .inl (cB38, 6, .inl f5)), (a8, .inl (cB40, 6, .inl f6))] H := hP
    have hD : va_D A [(a0, .inr (1, [g10, g11, .int k12, g13])), (a1, .inr (4, [g14, g15, g16, g17, g18, g19, g20, g21, g22, g23, .ref a5, g24, g25, g26, g27, g28, g29, g30])), (a5, .inl (cB34, 6, .inl f35)), (a9, .inl (cB42, 5, .inl f1)), (a2, .inr (3, [.int k31, g32, g33, .ref a6, .ref a7, .ref a8, .ref a9])), (a6, .inl (cB36, 6, .inl f4)), (a7, .inl (cB38, 6, .inl f5)), (a8, .inl (cB40, 6, .inl f6))] := hD
    have hK : va_K (dC, dI) vwCl [(cB34, .int), (cB36, .int), (cB38, .int), (cB40, .int), (cB42, .int)] s := hK
    refine lv_iconst (v := 1) hx hb dX1_taken_37 (by decide) ?_
    refine lv_iload hx hb dX1_taken_38 (lv_at hl 4 rfl) ?_
    refine lv_ishl hx hb dX1_taken_40 ?_
    refine lv_topi (fun z8 ez8 => ?_)
    have tz8 : 1 ≤ z8.toInt ∧ z8.toInt ≤ 32 := by rw [ez8]; have h9 := ishl1_t 0 5 1 32 rfl rfl (by decide) (k := k4) (by omega) (by omega); omega
    have hP9 := hP.sub (ws' := [(a0, .inr (1, [g10, g11, .int k12, g13])), (a1, .inr (4, [g14, g15, g16, g17, g18, g19, g20, g21, g22, g23, .ref a5, g24, g25, g26, g27, g28, g29, g30])), (a2, .inr (3, [.int k31, g32, g33, .ref a6, .ref a7, .ref a8, .ref a9])), (a5, .inl (cB34, 6, .inl f35)), (a6, .inl (cB36, 6, .inl f4)), (a7, .inl (cB38, 6, .inl f5)), (a8, .inl (cB40, 6, .inl f6)), (a9, .inl (cB42, 5, .inl f1))]) [0, 1, 4, 2, 5, 6, 7, 3] rfl
    have hD9 := hD.sub (ws' := [(a0, .inr (1, [g10, g11, .int k12, g13])), (a1, .inr (4, [g14, g15, g16, g17, g18, g19, g20, g21, g22, g23, .ref a5, g24, g25, g26, g27, g28, g29, g30])), (a2, .inr (3, [.int k31, g32, g33, .ref a6, .ref a7, .ref a8, .ref a9])), (a5, .inl (cB34, 6, .inl f35)), (a6, .inl (cB36, 6, .inl f4)), (a7, .inl (cB38, 6, .inl f5)), (a8, .inl (cB40, 6, .inl f6)), (a9, .inl (cB42, 5, .inl f1))]) [0, 1, 4, 2, 5, 6, 7, 3] (by decide) rfl
    have hK9 := hK.sub (tys' := []) [] rfl
    exact W.iret (v := z8) hx hb hr (fun t ht hW => ⟨⟨z8, (k12, f4, f5, f6, f1), rfl, (by first | trivial | omega | (simp only [ltv_0]; omega)), by rw [ht]; exact hP9, va_K.moved hW.alike hK9, hD9⟩, hS.F ht⟩) hS.2.2 dX1_taken_41
  · simp only [fa_lt, fa_le, fa_eq, ltv_0, ltv_2] at c3
    refine lv_aload_n hx hb dX1_taken_18 rfl (lv_at hl 0 rfl) ?_
    refine lv_dup hx hb dX1_taken_19 rfl ?_
    refine va_get (D := (dC, dI)) (ci := 1) (v := .int k12) (C := RX1) (T := TX1) (N := 4) hx hb hts iX1_taken_X1 hown hK hP 0 rfl rfl 2 (by decide) (hts (.fieldLink RX1 22 "HookPier$Days" "crabTakes" "I") (List.mem_of_getElem? (i := 12) rfl)) (fun _ h9 => h9) rfl dX1_taken_20 ?_
    refine lv_iconst (v := 1) hx hb dX1_taken_23 (by decide) ?_
    refine lv_iadd hx hb dX1_taken_24 ?_
    refine lv_topi (fun z9 ez9 => ?_)
    clear ez9
    refine va_put (D := (dC, dI)) (ci := 1) (v := .int z9) (ty := .int) (C := RX1) (T := TX1) (N := 4) hx hb hts iX1_taken_X1 tyX1 tyX1_ok nmX1 hown hK hP hD hS 0 rfl rfl 2 (by decide) (hts (.fieldLink RX1 22 "HookPier$Days" "crabTakes" "I") (List.mem_of_getElem? (i := 12) rfl)) (fun _ h9 => h9) rfl (by decide +kernel) rfl rfl (Nat.le_of_ble_eq_true rfl) dX1_taken_25 (fun H locs hP hD hS => ?_)
    have hP : va_P (dC, dI) vwCl [(a0, .inr (1, [g10, g11, .int z9, g13])), (a1, .inr (4, [g14, g15, g16, g17, g18, g19, g20, g21, g22, g23, .ref a5, g24, g25, g26, g27, g28, g29, g30])), (a2, .inr (3, [.int k31, g32, g33, .ref a6, .ref a7, .ref a8, .ref a9])), (a5, .inl (cB34, 6, .inl f35)), (a6, .inl (cB36, 6, .inl f37)), (a7, .inl (cB38, 6, .inl f39)), (a8, .inl (cB40, 6, .inl f41)), (a9, .inl (cB42, 5, .inl f1))] H := hP
    have hD : va_D A [(a0, .inr (1, [g10, g11, .int z9, g13])), (a1, .inr (4, [g14, g15, g16, g17, g18, g19, g20, g21, g22, g23, .ref a5, g24, g25, g26, g27, g28, g29, g30])), (a2, .inr (3, [.int k31, g32, g33, .ref a6, .ref a7, .ref a8, .ref a9])), (a5, .inl (cB34, 6, .inl f35)), (a6, .inl (cB36, 6, .inl f37)), (a7, .inl (cB38, 6, .inl f39)), (a8, .inl (cB40, 6, .inl f41)), (a9, .inl (cB42, 5, .inl f1))] := hD
    refine lv_iconst (v := 0) hx hb dX1_taken_28 (by decide) ?_
    have hP9 := hP.sub (ws' := [(a0, .inr (1, [g10, g11, .int z9, g13])), (a1, .inr (4, [g14, g15, g16, g17, g18, g19, g20, g21, g22, g23, .ref a5, g24, g25, g26, g27, g28, g29, g30])), (a2, .inr (3, [.int k31, g32, g33, .ref a6, .ref a7, .ref a8, .ref a9])), (a5, .inl (cB34, 6, .inl f35)), (a6, .inl (cB36, 6, .inl f37)), (a7, .inl (cB38, 6, .inl f39)), (a8, .inl (cB40, 6, .inl f41)), (a9, .inl (cB42, 5, .inl f1))]) [0, 1, 2, 3, 4, 5, 6, 7] rfl
    have hD9 := hD.sub (ws' := [(a0, .inr (1, [g10, g11, .int z9, g13])), (a1, .inr (4, [g14, g15, g16, g17, g18, g19, g20, g21, g22, g23, .ref a5, g24, g25, g26, g27, g28, g29, g30])), (a2, .inr (3, [.int k31, g32, g33, .ref a6, .ref a7, .ref a8, .ref a9])), (a5, .inl (cB34, 6, .inl f35)), (a6, .inl (cB36, 6, .inl f37)), (a7, .inl (cB38, 6, .inl f39)), (a8, .inl (cB40, 6, .inl f41)), (a9, .inl (cB42, 5, .inl f1))]) [0, 1, 2, 3, 4, 5, 6, 7] (by decide) rfl
    have hK9 := hK.sub (tys' := []) [] rfl
    exact W.iret (v := 0) hx hb hr (fun t ht hW => ⟨⟨0, (z9, f37, f39, f41, f1), rfl, (by first | trivial | omega | (simp only [ltv_0]; omega)), by rw [ht]; exact hP9, va_K.moved hW.alike hK9, hD9⟩, hS.F ht⟩) hS.2.2 dX1_taken_29
theorem dX1_pass_0 : decode cX1_pass 0 = .ok (.iconst 0, 1) := by decide +kernel
theorem dX1_pass_1 : decode cX1_pass 1 = .ok (.istore_n 3, 1) := by decide +kernel
theorem dX1_pass_10 : decode cX1_pass 10 = .ok (.ifCond .ne 76, 3) := by decide +kernel
theorem dX1_pass_13 : decode cX1_pass 13 = .ok (.aload_n 1, 1) := by decide +kernel
theorem dX1_pass_14 : decode cX1_pass 14 = .ok (.aload_n 2, 1) := by decide +kernel
theorem dX1_pass_15 : decode cX1_pass 15 = .ok (.invokestatic 62, 3) := by decide +kernel
theorem dX1_pass_18 : decode cX1_pass 18 = .ok (.istore 4, 2) := by decide +kernel
theorem dX1_pass_2 : decode cX1_pass 2 = .ok (.aload_n 1, 1) := by decide +kernel
theorem dX1_pass_20 : decode cX1_pass 20 = .ok (.iconst 0, 1) := by decide +kernel
theorem dX1_pass_21 : decode cX1_pass 21 = .ok (.istore 5, 2) := by decide +kernel
theorem dX1_pass_23 : decode cX1_pass 23 = .ok (.iload 5, 2) := by decide +kernel
theorem dX1_pass_25 : decode cX1_pass 25 = .ok (.aload_n 1, 1) := by decide +kernel
theorem dX1_pass_26 : decode cX1_pass 26 = .ok (.getfield 65, 3) := by decide +kernel
theorem dX1_pass_29 : decode cX1_pass 29 = .ok (.if_icmp .ge 57, 3) := by decide +kernel
theorem dX1_pass_3 : decode cX1_pass 3 = .ok (.aload_n 2, 1) := by decide +kernel
theorem dX1_pass_32 : decode cX1_pass 32 = .ok (.iload 4, 2) := by decide +kernel
theorem dX1_pass_34 : decode cX1_pass 34 = .ok (.iload 5, 2) := by decide +kernel
theorem dX1_pass_36 : decode cX1_pass 36 = .ok (.ishr, 1) := by decide +kernel
theorem dX1_pass_37 : decode cX1_pass 37 = .ok (.iconst 1, 1) := by decide +kernel
theorem dX1_pass_38 : decode cX1_pass 38 = .ok (.iand, 1) := by decide +kernel
theorem dX1_pass_39 : decode cX1_pass 39 = .ok (.iconst 1, 1) := by decide +kernel
theorem dX1_pass_4 : decode cX1_pass 4 = .ok (.getfield 53, 3) := by decide +kernel
theorem dX1_pass_40 : decode cX1_pass 40 = .ok (.if_icmp .ne 18, 3) := by decide +kernel
theorem dX1_pass_43 : decode cX1_pass 43 = .ok (.aload_n 1, 1) := by decide +kernel
theorem dX1_pass_44 : decode cX1_pass 44 = .ok (.aload_n 2, 1) := by decide +kernel
theorem dX1_pass_45 : decode cX1_pass 45 = .ok (.aload_n 2, 1) := by decide +kernel
theorem dX1_pass_46 : decode cX1_pass 46 = .ok (.getfield 68, 3) := by decide +kernel
theorem dX1_pass_49 : decode cX1_pass 49 = .ok (.iload 5, 2) := by decide +kernel
theorem dX1_pass_51 : decode cX1_pass 51 = .ok (.iaload, 1) := by decide +kernel
theorem dX1_pass_52 : decode cX1_pass 52 = .ok (.invokestatic 71, 3) := by decide +kernel
theorem dX1_pass_55 : decode cX1_pass 55 = .ok (.goto 4, 3) := by decide +kernel
theorem dX1_pass_58 : decode cX1_pass 58 = .ok (.iconst (-1), 1) := by decide +kernel
theorem dX1_pass_59 : decode cX1_pass 59 = .ok (.istore 6, 2) := by decide +kernel
theorem dX1_pass_61 : decode cX1_pass 61 = .ok (.iload 6, 2) := by decide +kernel
theorem dX1_pass_63 : decode cX1_pass 63 = .ok (.iconst (-1), 1) := by decide +kernel
theorem dX1_pass_64 : decode cX1_pass 64 = .ok (.if_icmp .eq 16, 3) := by decide +kernel
theorem dX1_pass_67 : decode cX1_pass 67 = .ok (.iload_n 3, 1) := by decide +kernel
theorem dX1_pass_68 : decode cX1_pass 68 = .ok (.aload_n 0, 1) := by decide +kernel
theorem dX1_pass_69 : decode cX1_pass 69 = .ok (.aload_n 1, 1) := by decide +kernel
theorem dX1_pass_7 : decode cX1_pass 7 = .ok (.invokevirtual 56, 3) := by decide +kernel
theorem dX1_pass_70 : decode cX1_pass 70 = .ok (.aload_n 2, 1) := by decide +kernel
theorem dX1_pass_71 : decode cX1_pass 71 = .ok (.iload 5, 2) := by decide +kernel
theorem dX1_pass_73 : decode cX1_pass 73 = .ok (.iload 6, 2) := by decide +kernel
theorem dX1_pass_75 : decode cX1_pass 75 = .ok (.invokevirtual 75, 3) := by decide +kernel
theorem dX1_pass_78 : decode cX1_pass 78 = .ok (.ior, 1) := by decide +kernel
theorem dX1_pass_79 : decode cX1_pass 79 = .ok (.istore_n 3, 1) := by decide +kernel
theorem dX1_pass_80 : decode cX1_pass 80 = .ok (.iinc 5 1, 3) := by decide +kernel
theorem dX1_pass_83 : decode cX1_pass 83 = .ok (.goto (-60), 3) := by decide +kernel
theorem dX1_pass_86 : decode cX1_pass 86 = .ok (.aload_n 2, 1) := by decide +kernel
theorem dX1_pass_87 : decode cX1_pass 87 = .ok (.dup, 1) := by decide +kernel
theorem dX1_pass_88 : decode cX1_pass 88 = .ok (.getfield 53, 3) := by decide +kernel
theorem dX1_pass_91 : decode cX1_pass 91 = .ok (.iconst 1, 1) := by decide +kernel
theorem dX1_pass_92 : decode cX1_pass 92 = .ok (.iadd, 1) := by decide +kernel
theorem dX1_pass_93 : decode cX1_pass 93 = .ok (.putfield 53, 3) := by decide +kernel
theorem dX1_pass_96 : decode cX1_pass 96 = .ok (.iload_n 3, 1) := by decide +kernel
theorem dX1_pass_97 : decode cX1_pass 97 = .ok (.ireturn, 1) := by decide +kernel
def vX1_pass : List Cond := .code yX1_pass cX1_pass 7 (some .int) :: ([.fieldLink RX1 53 "HookPier$Now" "today" "I", .methodLink RX1 56 yX6_isClose, .instanceMethod yX6_isClose, .selects RX6 yX6_isClose yX6_isClose, .initialized RX6, .code yX6_isClose cX6_isClose 2 (some .boolean), .fieldLink RX6 18 "HookPier$Plan" "closeFrom" "I", .fieldLink RX6 21 "HookPier$Plan" "closeTo" "I", .code yX10_within cX10_within 3 (some .boolean), .initialized RX10, .static yX10_within, .methodLink RX1 62 yX1_untangled, .static yX1_untangled, .initialized RX1, .code yX1_untangled cX1_untangled 4 (some .int), .fieldLink RX1 65 "HookPier$Plan" "askers" "I", .fieldLink RX1 68 "HookPier$Now" "line" "[I", .code yX10_spotOf cX10_spotOf 1 (some .int), .static yX10_spotOf, .methodLink RX1 82 yX4_isTangled, .instanceMethod yX4_isTangled, .selects RX4 yX4_isTangled yX4_isTangled, .initialized RX4, .code yX4_isTangled cX4_isTangled 5 (some .boolean), .fieldLink RX4 44 "HookPier$Plan" "askers" "I", .fieldLink RX4 31 "HookPier$Now" "line" "[I", .methodLink RX4 53 yX6_isTangle, .instanceMethod yX6_isTangle, .selects RX6 yX6_isTangle yX6_isTangle, .code yX6_isTangle cX6_isTangle 5 (some .boolean), .methodLink RX6 89 Lib.Math.abs.name, .static Lib.Math.abs.name, .initialized "java/lang/Math", .code Lib.Math.abs.name Lib.Math.abs.code 1 (some .int), .fieldLink RX6 39 "HookPier$Plan" "reach" "[I", .methodLink RX1 71 yX1_taker, .static yX1_taker, .code yX1_taker cX1_taker 4 (some .int), .fieldLink RX1 92 "HookPier$Plan" "answers" "I", .fieldLink RX1 95 "HookPier$Now" "stage" "[I", .methodLink RX1 98 yX4_draw, .instanceMethod yX4_draw, .selects RX4 yX4_draw yX4_draw, .code yX4_draw cX4_draw 1 (some .int), .fieldLink RX4 15 "HookPier$Now" "seedNow" "I", .constant RX4 57 (65537), .methodLink RX1 102 yX6_wishFor, .instanceMethod yX6_wishFor, .selects RX6 yX6_wishFor yX6_wishFor, .code yX6_wishFor cX6_wishFor 3 (some .int), .fieldLink RX6 52 "HookPier$Plan" "hunger" "[I", .methodLink RX6 94 yX6_wishBy, .instanceMethod yX6_wishBy, .selects RX6 yX6_wishBy yX6_wishBy, .code yX6_wishBy cX6_wishBy 5 (some .int), .fieldLink RX6 46 "HookPier$Plan" "at" "[I", .fieldLink RX6 43 "HookPier$Plan" "kind" "[I", .fieldLink RX6 55 "HookPier$Plan" "likes" "[I", .code yX10_baitOf cX10_baitOf 1 (some .int), .static yX10_baitOf, .methodLink RX6 98 Lib.Math.min.name, .static Lib.Math.min.name, .code Lib.Math.min.name Lib.Math.min.code 2 (some .int), .methodLink RX6 102 Lib.Math.max.name, .static Lib.Math.max.name, .code Lib.Math.max.name Lib.Math.max.code 2 (some .int), .code yX10_fathomsOf cX10_fathomsOf 1 (some .int), .static yX10_fathomsOf, .fieldLink RX6 49 "HookPier$Plan" "depth" "[I", .methodLink RX1 75 yX1_taken, .instanceMethod yX1_taken, .selects RX1 yX1_taken yX1_taken, .code yX1_taken cX1_taken 5 (some .int), .fieldLink RX1 86 "HookPier$Plan" "kind" "[I", .methodLink RX1 89 yX4_land, .instanceMethod yX4_land, .selects RX4 yX4_land yX4_land, .code yX4_land cX4_land 3 none, .fieldLink RX4 21 "HookPier$Now" "stage" "[I", .fieldLink RX4 25 "HookPier$Now" "landedOn" "[I", .fieldLink RX4 9 "HookPier$Now" "today" "I", .fieldLink RX4 28 "HookPier$Now" "landedBy" "[I", .fieldLink RX1 22 "HookPier$Days" "crabTakes" "I"] ++ wsX40 ++ wsX60 ++ wsX10)
theorem iX1_pass_X4 : ∀ w ∈ wsX40, w ∈ vX1_pass := fun _ h => List.mem_cons_of_mem _ (List.mem_append_left _ (List.mem_append_left _ (List.mem_append_right _ h)))
theorem iX1_pass_X6 : ∀ w ∈ wsX60, w ∈ vX1_pass := fun _ h => List.mem_cons_of_mem _ (List.mem_append_left _ (List.mem_append_right _ h))
theorem iX1_pass_X1 : ∀ w ∈ wsX10, w ∈ vX1_pass := fun _ h => List.mem_cons_of_mem _ (List.mem_append_right _ h)
set_option maxRecDepth 20000 in
theorem gX1_pass_0 : GoodIn vX1_pass (wsV RX1 56 RX6 yX6_isClose vX6_isClose) := goodIn_app (goodIn_r [.methodLink RX1 56 yX6_isClose, .instanceMethod yX6_isClose, .selects RX6 yX6_isClose yX6_isClose, .initialized RX6] [2, 3, 4, 5] (by decide +kernel) (by decide +kernel)) (goodIn_ca (goodIn_r (.code yX6_isClose cX6_isClose 2 (some .boolean) :: [.fieldLink RX6 18 "HookPier$Plan" "closeFrom" "I", .fieldLink RX6 21 "HookPier$Plan" "closeTo" "I", .code yX10_within cX10_within 3 (some .boolean), .initialized RX10, .static yX10_within]) [6, 7, 8, 9, 10, 11] (by decide +kernel) (by decide +kernel) : GoodIn vX1_pass (.code yX6_isClose cX6_isClose 2 (some .boolean) :: [.fieldLink RX6 18 "HookPier$Plan" "closeFrom" "I", .fieldLink RX6 21 "HookPier$Plan" "closeTo" "I", .code yX10_within cX10_within 3 (some .boolean), .initialized RX10, .static yX10_within])) (goodIn_sub iX1_pass_X6 (by decide +kernel)))
set_option maxRecDepth 20000 in
theorem gX1_pass_1 : GoodIn vX1_pass (va_wsS RX1 62 yX1_untangled vX1_untangled) := goodIn_app (goodIn_r [.methodLink RX1 62 yX1_untangled, .static yX1_untangled, .initialized RX1] [12, 13, 14] (by decide +kernel) (by decide +kernel)) (goodIn_ca (goodIn_ca (goodIn_r (.code yX1_untangled cX1_untangled 4 (some .int) :: [.fieldLink RX1 65 "HookPier$Plan" "askers" "I", .fieldLink RX1 68 "HookPier$Now" "line" "[I", .code yX10_spotOf cX10_spotOf 1 (some .int), .initialized RX10, .static yX10_spotOf, .methodLink RX1 82 yX4_isTangled, .instanceMethod yX4_isTangled, .selects RX4 yX4_isTangled yX4_isTangled, .initialized RX4, .code yX4_isTangled cX4_isTangled 5 (some .boolean), .fieldLink RX4 44 "HookPier$Plan" "askers" "I", .fieldLink RX4 31 "HookPier$Now" "line" "[I", .methodLink RX4 53 yX6_isTangle, .instanceMethod yX6_isTangle, .selects RX6 yX6_isTangle yX6_isTangle, .initialized RX6, .code yX6_isTangle cX6_isTangle 5 (some .boolean), .methodLink RX6 89 Lib.Math.abs.name, .static Lib.Math.abs.name, .initialized "java/lang/Math", .code Lib.Math.abs.name Lib.Math.abs.code 1 (some .int), .fieldLink RX6 39 "HookPier$Plan" "reach" "[I"]) [15, 16, 17, 18, 10, 19, 20, 21, 22, 23, 24, 25, 26, 27, 28, 29, 5, 30, 31, 32, 33, 34, 35] (by decide +kernel) (by decide +kernel) : GoodIn vX1_pass (.code yX1_untangled cX1_untangled 4 (some .int) :: [.fieldLink RX1 65 "HookPier$Plan" "askers" "I", .fieldLink RX1 68 "HookPier$Now" "line" "[I", .code yX10_spotOf cX10_spotOf 1 (some .int), .initialized RX10, .static yX10_spotOf, .methodLink RX1 82 yX4_isTangled, .instanceMethod yX4_isTangled, .selects RX4 yX4_isTangled yX4_isTangled, .initialized RX4, .code yX4_isTangled cX4_isTangled 5 (some .boolean), .fieldLink RX4 44 "HookPier$Plan" "askers" "I", .fieldLink RX4 31 "HookPier$Now" "line" "[I", .methodLink RX4 53 yX6_isTangle, .instanceMethod yX6_isTangle, .selects RX6 yX6_isTangle yX6_isTangle, .initialized RX6, .code yX6_isTangle cX6_isTangle 5 (some .boolean), .methodLink RX6 89 Lib.Math.abs.name, .static Lib.Math.abs.name, .initialized "java/lang/Math", .code Lib.Math.abs.name Lib.Math.abs.code 1 (some .int), .fieldLink RX6 39 "HookPier$Plan" "reach" "[I"])) (goodIn_sub iX1_pass_X6 (by decide +kernel))) (goodIn_sub iX1_pass_X4 (by decide +kernel)))
set_option maxRecDepth 20000 in
theorem gX1_pass_2 : GoodIn vX1_pass (va_wsS RX1 71 yX1_taker vX1_taker) := goodIn_app (goodIn_r [.methodLink RX1 71 yX1_taker, .static yX1_taker, .initialized RX1] [36, 37, 14] (by decide +kernel) (by decide +kernel)) (goodIn_ca (goodIn_ca (goodIn_r (.code yX1_taker cX1_taker 4 (some .int) :: [.fieldLink RX1 92 "HookPier$Plan" "answers" "I", .fieldLink RX1 95 "HookPier$Now" "stage" "[I", .methodLink RX1 98 yX4_draw, .instanceMethod yX4_draw, .selects RX4 yX4_draw yX4_draw, .initialized RX4, .code yX4_draw cX4_draw 1 (some .int), .fieldLink RX4 15 "HookPier$Now" "seedNow" "I", .constant RX4 57 (65537), .methodLink RX1 102 yX6_wishFor, .instanceMethod yX6_wishFor, .selects RX6 yX6_wishFor yX6_wishFor, .initialized RX6, .code yX6_wishFor cX6_wishFor 3 (some .int), .fieldLink RX6 52 "HookPier$Plan" "hunger" "[I", .methodLink RX6 94 yX6_wishBy, .instanceMethod yX6_wishBy, .selects RX6 yX6_wishBy yX6_wishBy, .code yX6_wishBy cX6_wishBy 5 (some .int), .code yX10_spotOf cX10_spotOf 1 (some .int), .initialized RX10, .static yX10_spotOf, .fieldLink RX6 46 "HookPier$Plan" "at" "[I", .methodLink RX6 89 Lib.Math.abs.name, .static Lib.Math.abs.name, .initialized "java/lang/Math", .code Lib.Math.abs.name Lib.Math.abs.code 1 (some .int), .fieldLink RX6 43 "HookPier$Plan" "kind" "[I", .fieldLink RX6 55 "HookPier$Plan" "likes" "[I", .code yX10_baitOf cX10_baitOf 1 (some .int), .static yX10_baitOf, .methodLink RX6 98 Lib.Math.min.name, .static Lib.Math.min.name, .code Lib.Math.min.name Lib.Math.min.code 2 (some .int), .methodLink RX6 102 Lib.Math.max.name, .static Lib.Math.max.name, .code Lib.Math.max.name Lib.Math.max.code 2 (some .int), .code yX10_fathomsOf cX10_fathomsOf 1 (some .int), .static yX10_fathomsOf, .fieldLink RX6 49 "HookPier$Plan" "depth" "[I"]) [38, 39, 40, 41, 42, 43, 23, 44, 45, 46, 47, 48, 49, 5, 50, 51, 52, 53, 54, 55, 18, 10, 19, 56, 31, 32, 33, 34, 57, 58, 59, 60, 61, 62, 63, 64, 65, 66, 67, 68, 69] (by decide +kernel) (by decide +kernel) : GoodIn vX1_pass (.code yX1_taker cX1_taker 4 (some .int) :: [.fieldLink RX1 92 "HookPier$Plan" "answers" "I", .fieldLink RX1 95 "HookPier$Now" "stage" "[I", .methodLink RX1 98 yX4_draw, .instanceMethod yX4_draw, .selects RX4 yX4_draw yX4_draw, .initialized RX4, .code yX4_draw cX4_draw 1 (some .int), .fieldLink RX4 15 "HookPier$Now" "seedNow" "I", .constant RX4 57 (65537), .methodLink RX1 102 yX6_wishFor, .instanceMethod yX6_wishFor, .selects RX6 yX6_wishFor yX6_wishFor, .initialized RX6, .code yX6_wishFor cX6_wishFor 3 (some .int), .fieldLink RX6 52 "HookPier$Plan" "hunger" "[I", .methodLink RX6 94 yX6_wishBy, .instanceMethod yX6_wishBy, .selects RX6 yX6_wishBy yX6_wishBy, .code yX6_wishBy cX6_wishBy 5 (some .int), .code yX10_spotOf cX10_spotOf 1 (some .int), .initialized RX10, .static yX10_spotOf, .fieldLink RX6 46 "HookPier$Plan" "at" "[I", .methodLink RX6 89 Lib.Math.abs.name, .static Lib.Math.abs.name, .initialized "java/lang/Math", .code Lib.Math.abs.name Lib.Math.abs.code 1 (some .int), .fieldLink RX6 43 "HookPier$Plan" "kind" "[I", .fieldLink RX6 55 "HookPier$Plan" "likes" "[I", .code yX10_baitOf cX10_baitOf 1 (some .int), .static yX10_baitOf, .methodLink RX6 98 Lib.Math.min.name, .static Lib.Math.min.name, .code Lib.Math.min.name Lib.Math.min.code 2 (some .int), .methodLink RX6 102 Lib.Math.max.name, .static Lib.Math.max.name, .code Lib.Math.max.name Lib.Math.max.code 2 (some .int), .code yX10_fathomsOf cX10_fathomsOf 1 (some .int), .static yX10_fathomsOf, .fieldLink RX6 49 "HookPier$Plan" "depth" "[I"])) (goodIn_sub iX1_pass_X6 (by decide +kernel))) (goodIn_sub iX1_pass_X4 (by decide +kernel)))
set_option maxRecDepth 20000 in
theorem gX1_pass_3 : GoodIn vX1_pass (wsV RX1 75 RX1 yX1_taken vX1_taken) := goodIn_app (goodIn_r [.methodLink RX1 75 yX1_taken, .instanceMethod yX1_taken, .selects RX1 yX1_taken yX1_taken, .initialized RX1] [70, 71, 72, 14] (by decide +kernel) (by decide +kernel)) (goodIn_ca (goodIn_ca (goodIn_ca (goodIn_r (.code yX1_taken cX1_taken 5 (some .int) :: [.fieldLink RX1 68 "HookPier$Now" "line" "[I", .fieldLink RX1 86 "HookPier$Plan" "kind" "[I", .methodLink RX1 89 yX4_land, .instanceMethod yX4_land, .selects RX4 yX4_land yX4_land, .initialized RX4, .code yX4_land cX4_land 3 none, .fieldLink RX4 21 "HookPier$Now" "stage" "[I", .fieldLink RX4 25 "HookPier$Now" "landedOn" "[I", .fieldLink RX4 9 "HookPier$Now" "today" "I", .fieldLink RX4 28 "HookPier$Now" "landedBy" "[I", .fieldLink RX1 22 "HookPier$Days" "crabTakes" "I"]) [73, 17, 74, 75, 76, 77, 23, 78, 79, 80, 81, 82, 83] (by decide +kernel) (by decide +kernel) : GoodIn vX1_pass (.code yX1_taken cX1_taken 5 (some .int) :: [.fieldLink RX1 68 "HookPier$Now" "line" "[I", .fieldLink RX1 86 "HookPier$Plan" "kind" "[I", .methodLink RX1 89 yX4_land, .instanceMethod yX4_land, .selects RX4 yX4_land yX4_land, .initialized RX4, .code yX4_land cX4_land 3 none, .fieldLink RX4 21 "HookPier$Now" "stage" "[I", .fieldLink RX4 25 "HookPier$Now" "landedOn" "[I", .fieldLink RX4 9 "HookPier$Now" "today" "I", .fieldLink RX4 28 "HookPier$Now" "landedBy" "[I", .fieldLink RX1 22 "HookPier$Days" "crabTakes" "I"])) (goodIn_sub iX1_pass_X4 (by decide +kernel))) (goodIn_sub iX1_pass_X6 (by decide +kernel))) (goodIn_sub iX1_pass_X1 (by decide +kernel)))
set_option maxHeartbeats 2000000 in
set_option maxRecDepth 100000 in
theorem kX1_pass (l : Launch) (dC : Nat → ClassId) (dI : Nat → Nat → Nat) (a0 : Nat) (a1 : Nat) (a2 : Nat) (a3 : Nat) (a4 : Nat) (a5 : Nat) (a6 : Nat) (a7 : Nat) (a8 : Nat) (a9 : Nat) (a10 : Nat) (a11 : Nat) (a12 : Nat) (g13 : Value) (g14 : Value) (k15 : Int32) (g16 : Value) (g17 : Value) (g18 : Value) (k19 : Int32) (k20 : Int32) (g21 : Value) (k22 : Int32) (k23 : Int32) (g24 : Value) (g25 : Value) (g26 : Value) (g27 : Value) (g28 : Value) (k29 : Int32) (k30 : Int32) (g31 : Value) (cB32 : ClassId) (f33 : Nat → Int32) (cB34 : ClassId) (f35 : Nat → Int32) (cB36 : ClassId) (f37 : Nat → Int32) (cB38 : ClassId) (f39 : Nat → Int32) (cB40 : ClassId) (f41 : Nat → Int32) (cB42 : ClassId) (f43 : Nat → Int32) (cB44 : ClassId) (f45 : Nat → Int32) (cB46 : ClassId) (f47 : Nat → Int32) (cB48 : ClassId) (f49 : Nat → Int32) (cB50 : ClassId) (f51 : Nat → Int32) (hk22 : (0 ≤ k22.toInt ∧ k22.toInt ≤ 5)) (hk23 : (0 ≤ k23.toInt ∧ k23.toInt ≤ 6)) (sz : Nat) : Met l yX1_pass vX1_pass ({ frames := 4, cells := 0, slots := 0, locals := 92 }) (PC (dC, dI) [.ref a0, .ref a1, .ref a2] sz [(a0, .inr (1, [g13, g14, .int k15, g16])), (a1, .inr (4, [g17, g18, .int k19, .int k20, g21, .int k22, .int k23, g24, g25, .ref a3, .ref a4, .ref a5, .ref a6, .ref a7, .ref a8, g26, g27, g28])), (a2, .inr (3, [.int k29, .int k30, g31, .ref a9, .ref a10, .ref a11, .ref a12])), (a3, .inl (cB32, 5, .inl f33)), (a4, .inl (cB34, 6, .inl f35)), (a5, .inl (cB36, 6, .inl f37)), (a6, .inl (cB38, 6, .inl f39)), (a7, .inl (cB40, 6, .inl f41)), (a8, .inl (cB42, 6, .inl f43)), (a9, .inl (cB44, 6, .inl f45)), (a10, .inl (cB46, 6, .inl f47)), (a11, .inl (cB48, 6, .inl f49)), (a12, .inl (cB50, 5, .inl f51))] [(cB32, .int), (cB34, .int), (cB36, .int), (cB38, .int), (cB40, .int), (cB42, .int), (cB44, .int), (cB46, .int), (cB48, .int), (cB50, .int)]) (va_Qi (S := Int32 × Int32 × Int32 × (Nat → Int32) × (Nat → Int32) × (Nat → Int32) × (Nat → Int32)) (fun (r : Int32) u => (0 ≤ r.toInt ∧ r.toInt ≤ 63)) (fun u t => BC (dC, dI) (va_A [(a0, .inr (1, [g13, g14, .int k15, g16])), (a1, .inr (4, [g17, g18, .int k19, .int k20, g21, .int k22, .int k23, g24, g25, .ref a3, .ref a4, .ref a5, .ref a6, .ref a7, .ref a8, g26, g27, g28])), (a2, .inr (3, [.int k29, .int k30, g31, .ref a9, .ref a10, .ref a11, .ref a12])), (a3, .inl (cB32, 5, .inl f33)), (a4, .inl (cB34, 6, .inl f35)), (a5, .inl (cB36, 6, .inl f37)), (a6, .inl (cB38, 6, .inl f39)), (a7, .inl (cB40, 6, .inl f41)), (a8, .inl (cB42, 6, .inl f43)), (a9, .inl (cB44, 6, .inl f45)), (a10, .inl (cB46, 6, .inl f47)), (a11, .inl (cB48, 6, .inl f49)), (a12, .inl (cB50, 5, .inl f51))] sz) [(a0, .inr (1, [g13, g14, .int (u.1), g16])), (a1, .inr (4, [g17, g18, .int k19, .int k20, g21, .int k22, .int k23, g24, g25, .ref a3, .ref a4, .ref a5, .ref a6, .ref a7, .ref a8, g26, g27, g28])), (a2, .inr (3, [.int (u.2.1), .int (u.2.2.1), g31, .ref a9, .ref a10, .ref a11, .ref a12])), (a3, .inl (cB32, 5, .inl f33)), (a4, .inl (cB34, 6, .inl f35)), (a5, .inl (cB36, 6, .inl f37)), (a6, .inl (cB38, 6, .inl f39)), (a7, .inl (cB40, 6, .inl f41)), (a8, .inl (cB42, 6, .inl f43)), (a9, .inl (cB44, 6, .inl (u.2.2.2.1))), (a10, .inl (cB46, 6, .inl (u.2.2.2.2.1))), (a11, .inl (cB48, 6, .inl (u.2.2.2.2.2.1))), (a12, .inl (cB50, 5, .inl (u.2.2.2.2.2.2)))] [] t) (va_A [(a0, .inr (1, [g13, g14, .int k15, g16])), (a1, .inr (4, [g17, g18, .int k19, .int k20, g21, .int k22, .int k23, g24, g25, .ref a3, .ref a4, .ref a5, .ref a6, .ref a7, .ref a8, g26, g27, g28])), (a2, .inr (3, [.int k29, .int k30, g31, .ref a9, .ref a10, .ref a11, .ref a12])), (a3, .inl (cB32, 5, .inl f33)), (a4, .inl (cB34, 6, .inl f35)), (a5, .inl (cB36, 6, .inl f37)), (a6, .inl (cB38, 6, .inl f39)), (a7, .inl (cB40, 6, .inl f41)), (a8, .inl (cB42, 6, .inl f43)), (a9, .inl (cB44, 6, .inl f45)), (a10, .inl (cB46, 6, .inl f47)), (a11, .inl (cB48, 6, .inl f49)), (a12, .inl (cB50, 5, .inl f51))] sz)) 0 0 (va_A [(a0, .inr (1, [g13, g14, .int k15, g16])), (a1, .inr (4, [g17, g18, .int k19, .int k20, g21, .int k22, .int k23, g24, g25, .ref a3, .ref a4, .ref a5, .ref a6, .ref a7, .ref a8, g26, g27, g28])), (a2, .inr (3, [.int k29, .int k30, g31, .ref a9, .ref a10, .ref a11, .ref a12])), (a3, .inl (cB32, 5, .inl f33)), (a4, .inl (cB34, 6, .inl f35)), (a5, .inl (cB36, 6, .inl f37)), (a6, .inl (cB38, 6, .inl f39)), (a7, .inl (cB40, 6, .inl f41)), (a8, .inl (cB42, 6, .inl f43)), (a9, .inl (cB44, 6, .inl f45)), (a10, .inl (cB46, 6, .inl f47)), (a11, .inl (cB48, 6, .inl f49)), (a12, .inl (cB50, 5, .inl f51))] sz) := by
  refine Met.ofW (cc := cX1_pass) (maxL := 7) (ret := (some .int)) (by decide) rfl ?_
  intro p e s m args below meth c s₁ B hml hv
  obtain ⟨rfl, hsz, hP, hK, hD0, hN⟩ := hv
  have hx := B.exec
  have hb := B.bytes
  have hr := B.returns
  have hts := atoms_spec (ws := vX1_pass) B.pre
  have hown : s.vm.findClass RX1 = some m.cls := findClass_of_methodNamed B.named
  have hlocks := B.notSynchronized
  subst hsz
  have hD := hD0.self (sz := s.heap.size)
  generalize hAe : va_A [(a0, .inr (1, [g13, g14, .int k15, g16])), (a1, .inr (4, [g17, g18, .int k19, .int k20, g21, .int k22, .int k23, g24, g25, .ref a3, .ref a4, .ref a5, .ref a6, .ref a7, .ref a8, g26, g27, g28])), (a2, .inr (3, [.int k29, .int k30, g31, .ref a9, .ref a10, .ref a11, .ref a12])), (a3, .inl (cB32, 5, .inl f33)), (a4, .inl (cB34, 6, .inl f35)), (a5, .inl (cB36, 6, .inl f37)), (a6, .inl (cB38, 6, .inl f39)), (a7, .inl (cB40, 6, .inl f41)), (a8, .inl (cB42, 6, .inl f43)), (a9, .inl (cB44, 6, .inl f45)), (a10, .inl (cB46, 6, .inl f47)), (a11, .inl (cB48, 6, .inl f49)), (a12, .inl (cB50, 5, .inl f51))] s.heap.size = A at hD ⊢
  have hA : ∀ q : Nat, s.heap.size ≤ q → A q := fun q h => by rw [← hAe]; exact Or.inr h
  have hS : va_S A s.heap s.heap [] := va_S.rf
  have hP : va_P (dC, dI) vwCl [(a0, .inr (1, [g13, g14, .int k15, g16])), (a1, .inr (4, [g17, g18, .int k19, .int k20, g21, .int k22, .int k23, g24, g25, .ref a3, .ref a4, .ref a5, .ref a6, .ref a7, .ref a8, g26, g27, g28])), (a2, .inr (3, [.int k29, .int k30, g31, .ref a9, .ref a10, .ref a11, .ref a12])), (a3, .inl (cB32, 5, .inl f33)), (a4, .inl (cB34, 6, .inl f35)), (a5, .inl (cB36, 6, .inl f37)), (a6, .inl (cB38, 6, .inl f39)), (a7, .inl (cB40, 6, .inl f41)), (a8, .inl (cB42, 6, .inl f43)), (a9, .inl (cB44, 6, .inl f45)), (a10, .inl (cB46, 6, .inl f47)), (a11, .inl (cB48, 6, .inl f49)), (a12, .inl (cB50, 5, .inl f51))] s.heap := hP
  have hl := lv_entry ([.ref a0, .ref a1, .ref a2]) (n := 7) (Nat.le_of_ble_eq_true rfl)
  rw [lg_entry_eq]
  generalize (lg_sl ([.ref a0, .ref a1, .ref a2]) ++ List.replicate (7 - (lg_sl ([.ref a0, .ref a1, .ref a2])).length) Slot.unset).toArray = ls at hl ⊢
  have hl : lv_has ls 7 [(0, .ref a0), (1, .ref a1), (2, .ref a2)] := hl
  refine lv_iconst (v := 0) hx hb dX1_pass_0 (by decide) ?_
  refine lv_istore_n (lv' := [(3, .int 0), (0, .ref a0), (1, .ref a1), (2, .ref a2)]) hx hb dX1_pass_1 rfl hl (by decide) rfl (fun ls hl => ?_)
  refine lv_aload_n hx hb dX1_pass_2 rfl (lv_at hl 2 rfl) ?_
  refine lv_aload_n hx hb dX1_pass_3 rfl (lv_at hl 3 rfl) ?_
  refine va_get (D := (dC, dI)) (ci := 3) (v := .int k29) (C := RX4) (T := TX4) (N := 7) hx hb hts iX1_pass_X4 hown hK hP 2 rfl rfl 0 (by decide) (hts (.fieldLink RX1 53 "HookPier$Now" "today" "I") (List.mem_of_getElem? (i := 1) rfl)) (fun _ h9 => h9) rfl dX1_pass_4 ?_
  refine cl_i (wc := [(a1, .inr (4, [g17, g18, .int k19, .int k20, g21, .int k22, .int k23, g24, g25, .ref a3, .ref a4, .ref a5, .ref a6, .ref a7, .ref a8, g26, g27, g28]))]) (wr := [(a0, .inr (1, [g13, g14, .int k15, g16])), (a2, .inr (3, [.int k29, .int k30, g31, .ref a9, .ref a10, .ref a11, .ref a12])), (a3, .inl (cB32, 5, .inl f33)), (a4, .inl (cB34, 6, .inl f35)), (a5, .inl (cB36, 6, .inl f37)), (a6, .inl (cB38, 6, .inl f39)), (a7, .inl (cB40, 6, .inl f41)), (a8, .inl (cB42, 6, .inl f43)), (a9, .inl (cB44, 6, .inl f45)), (a10, .inl (cB46, 6, .inl f47)), (a11, .inl (cB48, 6, .inl f49)), (a12, .inl (cB50, 5, .inl f51))]) (va_runV (As := [.int k29]) (rest := []) ⟨hx, hb, hml, hown, hts⟩ (kX6_isClose l dC dI a1 k29 (g17) (g18) k19 k20 (g21) (.int k22) (.int k23) (g24) (g25) (.ref a3) (.ref a4) (.ref a5) (.ref a6) (.ref a7) (.ref a8) (g26) (g27) (g28)  s.heap.size) (cwV 1 hts gX1_pass_0 rfl rfl rfl (by decide +kernel) ⟨Nat.le_of_ble_eq_true rfl, Nat.le_of_ble_eq_true rfl⟩) (PV (hP.sub (ws' := [(a1, .inr (4, [g17, g18, .int k19, .int k20, g21, .int k22, .int k23, g24, g25, .ref a3, .ref a4, .ref a5, .ref a6, .ref a7, .ref a8, g26, g27, g28]))]) [1] rfl) (hK.sub (tys' := []) [] rfl) (hD.sub (ws' := [(a1, .inr (4, [g17, g18, .int k19, .int k20, g21, .int k22, .int k23, g24, g25, .ref a3, .ref a4, .ref a5, .ref a6, .ref a7, .ref a8, g26, g27, g28]))]) [1] (by decide) rfl) hN 0 rfl rfl) rfl rfl hl.1 rfl (lv_room (Nat.le_of_ble_eq_true rfl)) dX1_pass_7 ⟨Nat.le_of_ble_eq_true rfl, Nat.le_of_ble_eq_true rfl⟩) hP hD hK hS hA [1] [0, 2, 3, 4, 5, 6, 7, 8, 9, 10, 11, 12] rfl rfl (by decide) (by decide) (fun z1 _u H locs hw hP hD hK hS => ?_)
  have b2 := hw
  have hP : va_P (dC, dI) vwCl [(a0, .inr (1, [g13, g14, .int k15, g16])), (a2, .inr (3, [.int k29, .int k30, g31, .ref a9, .ref a10, .ref a11, .ref a12])), (a3, .inl (cB32, 5, .inl f33)), (a4, .inl (cB34, 6, .inl f35)), (a5, .inl (cB36, 6, .inl f37)), (a6, .inl (cB38, 6, .inl f39)), (a7, .inl (cB40, 6, .inl f41)), (a8, .inl (cB42, 6, .inl f43)), (a9, .inl (cB44, 6, .inl f45)), (a10, .inl (cB46, 6, .inl f47)), (a11, .inl (cB48, 6, .inl f49)), (a12, .inl (cB50, 5, .inl f51)), (a1, .inr (4, [g17, g18, .int k19, .int k20, g21, .int k22, .int k23, g24, g25, .ref a3, .ref a4, .ref a5, .ref a6, .ref a7, .ref a8, g26, g27, g28]))] H := hP
  have hD : va_D A [(a0, .inr (1, [g13, g14, .int k15, g16])), (a2, .inr (3, [.int k29, .int k30, g31, .ref a9, .ref a10, .ref a11, .ref a12])), (a3, .inl (cB32, 5, .inl f33)), (a4, .inl (cB34, 6, .inl f35)), (a5, .inl (cB36, 6, .inl f37)), (a6, .inl (cB38, 6, .inl f39)), (a7, .inl (cB40, 6, .inl f41)), (a8, .inl (cB42, 6, .inl f43)), (a9, .inl (cB44, 6, .inl f45)), (a10, .inl (cB46, 6, .inl f47)), (a11, .inl (cB48, 6, .inl f49)), (a12, .inl (cB50, 5, .inl f51)), (a1, .inr (4, [g17, g18, .int k19, .int k20, g21, .int k22, .int k23, g24, g25, .ref a3, .ref a4, .ref a5, .ref a6, .ref a7, .ref a8, g26, g27, g28]))] := hD
  have hK : va_K (dC, dI) vwCl [(cB32, .int), (cB34, .int), (cB36, .int), (cB38, .int), (cB40, .int), (cB42, .int), (cB44, .int), (cB46, .int), (cB48, .int), (cB50, .int)] s := hK
  refine lv_if_ne (tgt := 86) hx hb dX1_pass_10 (by decide) (fun c3 => ?_) (fun c3 => ?_)
  · simp only [fa_lt, fa_le, fa_eq, ltv_0] at c3
    refine lv_aload_n hx hb dX1_pass_86 rfl (lv_at hl 3 rfl) ?_
    refine lv_dup hx hb dX1_pass_87 rfl ?_
    refine va_get (D := (dC, dI)) (ci := 3) (v := .int k29) (C := RX4) (T := TX4) (N := 7) hx hb hts iX1_pass_X4 hown hK hP 1 rfl rfl 0 (by decide) (hts (.fieldLink RX1 53 "HookPier$Now" "today" "I") (List.mem_of_getElem? (i := 1) rfl)) (fun _ h9 => h9) rfl dX1_pass_88 ?_
    refine lv_iconst (v := 1) hx hb dX1_pass_91 (by decide) ?_
    refine lv_iadd hx hb dX1_pass_92 ?_
    refine lv_topi (fun z4 ez4 => ?_)
    clear ez4
    refine va_put (D := (dC, dI)) (ci := 3) (v := .int z4) (ty := .int) (C := RX4) (T := TX4) (N := 7) hx hb hts iX1_pass_X4 tyX4 tyX4_ok nmX4 hown hK hP hD hS 1 rfl rfl 0 (by decide) (hts (.fieldLink RX1 53 "HookPier$Now" "today" "I") (List.mem_of_getElem? (i := 1) rfl)) (fun _ h9 => h9) rfl (by decide +kernel) rfl rfl (Nat.le_of_ble_eq_true rfl) dX1_pass_93 (fun H locs hP hD hS => ?_)
    have hP : va_P (dC, dI) vwCl [(a0, .inr (1, [g13, g14, .int k15, g16])), (a2, .inr (3, [.int z4, .int k30, g31, .ref a9, .ref a10, .ref a11, .ref a12])), (a3, .inl (cB32, 5, .inl f33)), (a4, .inl (cB34, 6, .inl f35)), (a5, .inl (cB36, 6, .inl f37)), (a6, .inl (cB38, 6, .inl f39)), (a7, .inl (cB40, 6, .inl f41)), (a8, .inl (cB42, 6, .inl f43)), (a9, .inl (cB44, 6, .inl f45)), (a10, .inl (cB46, 6, .inl f47)), (a11, .inl (cB48, 6, .inl f49)), (a12, .inl (cB50, 5, .inl f51)), (a1, .inr (4, [g17, g18, .int k19, .int k20, g21, .int k22, .int k23, g24, g25, .ref a3, .ref a4, .ref a5, .ref a6, .ref a7, .ref a8, g26, g27, g28]))] H := hP
    have hD : va_D A [(a0, .inr (1, [g13, g14, .int k15, g16])), (a2, .inr (3, [.int z4, .int k30, g31, .ref a9, .ref a10, .ref a11, .ref a12])), (a3, .inl (cB32, 5, .inl f33)), (a4, .inl (cB34, 6, .inl f35)), (a5, .inl (cB36, 6, .inl f37)), (a6, .inl (cB38, 6, .inl f39)), (a7, .inl (cB40, 6, .inl f41)), (a8, .inl (cB42, 6, .inl f43)), (a9, .inl (cB44, 6, .inl f45)), (a10, .inl (cB46, 6, .inl f47)), (a11, .inl (cB48, 6, .inl f49)), (a12, .inl (cB50, 5, .inl f51)), (a1, .inr (4, [g17, g18, .int k19, .int k20, g21, .int k22, .int k23, g24, g25, .ref a3, .ref a4, .ref a5, .ref a6, .ref a7, .ref a8, g26, g27, g28]))] := hD
    refine lv_iload_n hx hb dX1_pass_96 rfl (lv_at hl 0 rfl) ?_
    have hP9 := hP.sub (ws' := [(a0, .inr (1, [g13, g14, .int k15, g16])), (a1, .inr (4, [g17, g18, .int k19, .int k20, g21, .int k22, .int k23, g24, g25, .ref a3, .ref a4, .ref a5, .ref a6, .ref a7, .ref a8, g26, g27, g28])), (a2, .inr (3, [.int z4, .int k30, g31, .ref a9, .ref a10, .ref a11, .ref a12])), (a3, .inl (cB32, 5, .inl f33)), (a4, .inl (cB34, 6, .inl f35)), (a5, .inl (cB36, 6, .inl f37)), (a6, .inl (cB38, 6, .inl f39)), (a7, .inl (cB40, 6, .inl f41)), (a8, .inl (cB42, 6, .inl f43)), (a9, .inl (cB44, 6, .inl f45)), (a10, .inl (cB46, 6, .inl f47)), (a11, .inl (cB48, 6, .inl f49)), (a12, .inl (cB50, 5, .inl f51))]) [0, 12, 1, 2, 3, 4, 5, 6, 7, 8, 9, 10, 11] rfl
    have hD9 := hD.sub (ws' := [(a0, .inr (1, [g13, g14, .int k15, g16])), (a1, .inr (4, [g17, g18, .int k19, .int k20, g21, .int k22, .int k23, g24, g25, .ref a3, .ref a4, .ref a5, .ref a6, .ref a7, .ref a8, g26, g27, g28])), (a2, .inr (3, [.int z4, .int k30, g31, .ref a9, .ref a10, .ref a11, .ref a12])), (a3, .inl (cB32, 5, .inl f33)), (a4, .inl (cB34, 6, .inl f35)), (a5, .inl (cB36, 6, .inl f37)), (a6, .inl (cB38, 6, .inl f39)), (a7, .inl (cB40, 6, .inl f41)), (a8, .inl (cB42, 6, .inl f43)), (a9, .inl (cB44, 6, .inl f45)), (a10, .inl (cB46, 6, .inl f47)), (a11, .inl (cB48, 6, .inl f49)), (a12, .inl (cB50, 5, .inl f51))]) [0, 12, 1, 2, 3, 4, 5, 6, 7, 8, 9, 10, 11] (by decide) rfl
    have hK9 := hK.sub (tys' := []) [] rfl
    exact W.iret (v := 0) hx hb hr (fun t ht hW => ⟨⟨0, (k15, z4, k30, f45, f47, f49, f51), rfl, (by first | trivial | omega | (simp only [ltv_0]; omega)), by rw [ht]; exact hP9, va_K.moved hW.alike hK9, hD9⟩, hS.F ht⟩) hS.2.2 dX1_pass_97
  · simp only [fa_lt, fa_le, fa_eq, ltv_0] at c3
    refine lv_aload_n hx hb dX1_pass_13 rfl (lv_at hl 2 rfl) ?_
    refine lv_aload_n hx hb dX1_pass_14 rfl (lv_at hl 3 rfl) ?_
    refine cl_i (wc := [(a1, .inr (4, [g17, g18, .int k19, .int k20, g21, .int k22, .int k23, g24, g25, .ref a3, .ref a4, .ref a5, .ref a6, .ref a7, .ref a8, g26, g27, g28])), (a2, .inr (3, [.int k29, .int k30, g31, .ref a9, .ref a10, .ref a11, .ref a12])), (a3, .inl (cB32, 5, .inl f33)), (a12, .inl (cB50, 5, .inl f51))]) (wr := [(a0, .inr (1, [g13, g14, .int k15, g16])), (a4, .inl (cB34, 6, .inl f35)), (a5, .inl (cB36, 6, .inl f37)), (a6, .inl (cB38, 6, .inl f39)), (a7, .inl (cB40, 6, .inl f41)), (a8, .inl (cB42, 6, .inl f43)), (a9, .inl (cB44, 6, .inl f45)), (a10, .inl (cB46, 6, .inl f47)), (a11, .inl (cB48, 6, .inl f49))]) (va_runS (As := [.ref a1, .ref a2]) (rest := []) ⟨hx, hb, hml, hown, hts⟩ (kX1_untangled l dC dI a1 a2 a3 a12 (g17) (g18) (.int k19) (.int k20) (g21) k22 (.int k23) (g24) (g25) (.ref a4) (.ref a5) (.ref a6) (.ref a7) (.ref a8) (g26) (g27) (g28) (.int k29) (.int k30) (g31) (.ref a9) (.ref a10) (.ref a11) cB32 f33 cB50 f51 (by first | omega | (simp only [ltv_0]; omega)) H.size) (va_cwS 2 hts gX1_pass_1 rfl rfl rfl (by decide +kernel) ⟨Nat.le_of_ble_eq_true rfl, Nat.le_of_ble_eq_true rfl⟩) (PS (hP.sub (ws' := [(a1, .inr (4, [g17, g18, .int k19, .int k20, g21, .int k22, .int k23, g24, g25, .ref a3, .ref a4, .ref a5, .ref a6, .ref a7, .ref a8, g26, g27, g28])), (a2, .inr (3, [.int k29, .int k30, g31, .ref a9, .ref a10, .ref a11, .ref a12])), (a3, .inl (cB32, 5, .inl f33)), (a12, .inl (cB50, 5, .inl f51))]) [12, 1, 2, 11] rfl) (hK.sub (tys' := [(cB32, .int), (cB50, .int)]) [0, 9] rfl) (hD.sub (ws' := [(a1, .inr (4, [g17, g18, .int k19, .int k20, g21, .int k22, .int k23, g24, g25, .ref a3, .ref a4, .ref a5, .ref a6, .ref a7, .ref a8, g26, g27, g28])), (a2, .inr (3, [.int k29, .int k30, g31, .ref a9, .ref a10, .ref a11, .ref a12])), (a3, .inl (cB32, 5, .inl f33)), (a12, .inl (cB50, 5, .inl f51))]) [12, 1, 2, 11] (by decide) rfl) hN) rfl rfl hl.1 rfl (lv_room (Nat.le_of_ble_eq_true rfl)) dX1_pass_15 ⟨Nat.le_of_ble_eq_true rfl, Nat.le_of_ble_eq_true rfl⟩) hP hD hK hS hA [12, 1, 2, 11] [0, 3, 4, 5, 6, 7, 8, 9, 10] rfl rfl (by decide) (by decide) (fun z5 _u H locs hw hP hD hK hS => ?_)
    have b6 := hw
    have hP : va_P (dC, dI) vwCl [(a0, .inr (1, [g13, g14, .int k15, g16])), (a4, .inl (cB34, 6, .inl f35)), (a5, .inl (cB36, 6, .inl f37)), (a6, .inl (cB38, 6, .inl f39)), (a7, .inl (cB40, 6, .inl f41)), (a8, .inl (cB42, 6, .inl f43)), (a9, .inl (cB44, 6, .inl f45)), (a10, .inl (cB46, 6, .inl f47)), (a11, .inl (cB48, 6, .inl f49)), (a1, .inr (4, [g17, g18, .int k19, .int k20, g21, .int k22, .int k23, g24, g25, .ref a3, .ref a4, .ref a5, .ref a6, .ref a7, .ref a8, g26, g27, g28])), (a2, .inr (3, [.int k29, .int k30, g31, .ref a9, .ref a10, .ref a11, .ref a12])), (a3, .inl (cB32, 5, .inl f33)), (a12, .inl (cB50, 5, .inl f51))] H := hP
    have hD : va_D A [(a0, .inr (1, [g13, g14, .int k15, g16])), (a4, .inl (cB34, 6, .inl f35)), (a5, .inl (cB36, 6, .inl f37)), (a6, .inl (cB38, 6, .inl f39)), (a7, .inl (cB40, 6, .inl f41)), (a8, .inl (cB42, 6, .inl f43)), (a9, .inl (cB44, 6, .inl f45)), (a10, .inl (cB46, 6, .inl f47)), (a11, .inl (cB48, 6, .inl f49)), (a1, .inr (4, [g17, g18, .int k19, .int k20, g21, .int k22, .int k23, g24, g25, .ref a3, .ref a4, .ref a5, .ref a6, .ref a7, .ref a8, g26, g27, g28])), (a2, .inr (3, [.int k29, .int k30, g31, .ref a9, .ref a10, .ref a11, .ref a12])), (a3, .inl (cB32, 5, .inl f33)), (a12, .inl (cB50, 5, .inl f51))] := hD
    have hK : va_K (dC, dI) vwCl [(cB32, .int), (cB34, .int), (cB36, .int), (cB38, .int), (cB40, .int), (cB42, .int), (cB44, .int), (cB46, .int), (cB48, .int), (cB50, .int)] s := hK
    refine lv_istore (lv' := [(4, .int z5), (3, .int 0), (0, .ref a0), (1, .ref a1), (2, .ref a2)]) hx hb dX1_pass_18 hl (by decide) rfl (fun ls hl => ?_)
    refine lv_iconst (v := 0) hx hb dX1_pass_20 (by decide) ?_
    refine lv_istore (lv' := [(5, .int 0), (4, .int z5), (3, .int 0), (0, .ref a0), (1, .ref a1), (2, .ref a2)]) hx hb dX1_pass_21 hl (by decide) rfl (fun ls hl => ?_)
    have L23_132 : ∀ (n : Nat) (z124 : Int32) (z125 : Int32) (z126 : Int32) (f127 : Nat → Int32) (f128 : Nat → Int32) (f129 : Nat → Int32) (z130 : Int32) (f131 : Nat → Int32) (H : Heap) (locs : List Loc) (ls : Array Slot), (0 ≤ z124.toInt ∧ z124.toInt ≤ 5) → (0 ≤ z125.toInt ∧ z125.toInt ≤ 63) → 5 - z124.toInt < (n : Int) → va_P (dC, dI) vwCl [(a0, .inr (1, [g13, g14, .int z126, g16])), (a4, .inl (cB34, 6, .inl f35)), (a5, .inl (cB36, 6, .inl f37)), (a6, .inl (cB38, 6, .inl f39)), (a7, .inl (cB40, 6, .inl f41)), (a8, .inl (cB42, 6, .inl f43)), (a9, .inl (cB44, 6, .inl f127)), (a10, .inl (cB46, 6, .inl f128)), (a11, .inl (cB48, 6, .inl f129)), (a1, .inr (4, [g17, g18, .int k19, .int k20, g21, .int k22, .int k23, g24, g25, .ref a3, .ref a4, .ref a5, .ref a6, .ref a7, .ref a8, g26, g27, g28])), (a2, .inr (3, [.int k29, .int z130, g31, .ref a9, .ref a10, .ref a11, .ref a12])), (a3, .inl (cB32, 5, .inl f33)), (a12, .inl (cB50, 5, .inl f131))] H → va_D A [(a0, .inr (1, [g13, g14, .int z126, g16])), (a4, .inl (cB34, 6, .inl f35)), (a5, .inl (cB36, 6, .inl f37)), (a6, .inl (cB38, 6, .inl f39)), (a7, .inl (cB40, 6, .inl f41)), (a8, .inl (cB42, 6, .inl f43)), (a9, .inl (cB44, 6, .inl f127)), (a10, .inl (cB46, 6, .inl f128)), (a11, .inl (cB48, 6, .inl f129)), (a1, .inr (4, [g17, g18, .int k19, .int k20, g21, .int k22, .int k23, g24, g25, .ref a3, .ref a4, .ref a5, .ref a6, .ref a7, .ref a8, g26, g27, g28])), (a2, .inr (3, [.int k29, .int z130, g31, .ref a9, .ref a10, .ref a11, .ref a12])), (a3, .inl (cB32, 5, .inl f33)), (a12, .inl (cB50, 5, .inl f131))] → va_S A s.heap H locs → lv_has ls 7 [(5, .int z124), (4, .int z5), (3, .int z125), (0, .ref a0), (1, .ref a1), (2, .ref a2)] → W p l e (headSpec vX1_pass { frames := 4, cells := 0, slots := 0, locals := 92 }).room s m ([.ref a0, .ref a1, .ref a2]).toArray below meth c H locs 0 0 (MQ below (va_Qi (S := Int32 × Int32 × Int32 × (Nat → Int32) × (Nat → Int32) × (Nat → Int32) × (Nat → Int32)) (fun (r : Int32) u => (0 ≤ r.toInt ∧ r.toInt ≤ 63)) (fun u t => BC (dC, dI) A [(a0, .inr (1, [g13, g14, .int (u.1), g16])), (a1, .inr (4, [g17, g18, .int k19, .int k20, g21, .int k22, .int k23, g24, g25, .ref a3, .ref a4, .ref a5, .ref a6, .ref a7, .ref a8, g26, g27, g28])), (a2, .inr (3, [.int (u.2.1), .int (u.2.2.1), g31, .ref a9, .ref a10, .ref a11, .ref a12])), (a3, .inl (cB32, 5, .inl f33)), (a4, .inl (cB34, 6, .inl f35)), (a5, .inl (cB36, 6, .inl f37)), (a6, .inl (cB38, 6, .inl f39)), (a7, .inl (cB40, 6, .inl f41)), (a8, .inl (cB42, 6, .inl f43)), (a9, .inl (cB44, 6, .inl (u.2.2.2.1))), (a10, .inl (cB46, 6, .inl (u.2.2.2.2.1))), (a11, .inl (cB48, 6, .inl (u.2.2.2.2.2.1))), (a12, .inl (cB50, 5, .inl (u.2.2.2.2.2.2)))] [] t) A) ([.ref a0, .ref a1, .ref a2]).toArray s 0 0 A) (F0 m 23 ls []) := by
      intro n
      induction n with
      | zero =>
        intro z124 z125 z126 f127 f128 f129 z130 f131 H locs ls b23_0 b23_1 hm _ _ _ _
        exact absurd hm (by omega)
      | succ n ih23 =>
        intro z124 z125 z126 f127 f128 f129 z130 f131 H locs ls b23_0 b23_1 hm23 hP hD hS hl
        refine lv_iload hx hb dX1_pass_23 (lv_at hl 0 rfl) ?_
        refine lv_aload_n hx hb dX1_pass_25 rfl (lv_at hl 4 rfl) ?_
        refine va_get (D := (dC, dI)) (ci := 4) (v := .int k22) (C := RX6) (T := TX6) (N := 18) hx hb hts iX1_pass_X6 hown hK hP 9 rfl rfl 5 (by decide) (hts (.fieldLink RX1 65 "HookPier$Plan" "askers" "I") (List.mem_of_getElem? (i := 16) rfl)) (fun _ h9 => h9) rfl dX1_pass_26 ?_
        refine lv_icmp_ge (tgt := 86) hx hb dX1_pass_29 (by decide) (fun c133 => ?_) (fun c133 => ?_)
        · simp only [fa_lt, fa_le, fa_eq, ltv_0] at c133
          refine lv_aload_n hx hb dX1_pass_86 rfl (lv_at hl 5 rfl) ?_
          refine lv_dup hx hb dX1_pass_87 rfl ?_
          refine va_get (D := (dC, dI)) (ci := 3) (v := .int k29) (C := RX4) (T := TX4) (N := 7) hx hb hts iX1_pass_X4 hown hK hP 10 rfl rfl 0 (by decide) (hts (.fieldLink RX1 53 "HookPier$Now" "today" "I") (List.mem_of_getElem? (i := 1) rfl)) (fun _ h9 => h9) rfl dX1_pass_88 ?_
          refine lv_iconst (v := 1) hx hb dX1_pass_91 (by decide) ?_
          refine lv_iadd hx hb dX1_pass_92 ?_
          refine lv_topi (fun z134 ez134 => ?_)
          clear ez134
          refine va_put (D := (dC, dI)) (ci := 3) (v := .int z134) (ty := .int) (C := RX4) (T := TX4) (N := 7) hx hb hts iX1_pass_X4 tyX4 tyX4_ok nmX4 hown hK hP hD hS 10 rfl rfl 0 (by decide) (hts (.fieldLink RX1 53 "HookPier$Now" "today" "I") (List.mem_of_getElem? (i := 1) rfl)) (fun _ h9 => h9) rfl (by decide +kernel) rfl rfl (Nat.le_of_ble_eq_true rfl) dX1_pass_93 (fun H locs hP hD hS => ?_)
          have hP : va_P (dC, dI) vwCl [(a0, .inr (1, [g13, g14, .int z126, g16])), (a4, .inl (cB34, 6, .inl f35)), (a5, .inl (cB36, 6, .inl f37)), (a6, .inl (cB38, 6, .inl f39)), (a7, .inl (cB40, 6, .inl f41)), (a8, .inl (cB42, 6, .inl f43)), (a9, .inl (cB44, 6, .inl f127)), (a10, .inl (cB46, 6, .inl f128)), (a11, .inl (cB48, 6, .inl f129)), (a1, .inr (4, [g17, g18, .int k19, .int k20, g21, .int k22, .int k23, g24, g25, .ref a3, .ref a4, .ref a5, .ref a6, .ref a7, .ref a8, g26, g27, g28])), (a2, .inr (3, [.int z134, .int z130, g31, .ref a9, .ref a10, .ref a11, .ref a12])), (a3, .inl (cB32, 5, .inl f33)), (a12, .inl (cB50, 5, .inl f131))] H := hP
          have hD : va_D A [(a0, .inr (1, [g13, g14, .int z126, g16])), (a4, .inl (cB34, 6, .inl f35)), (a5, .inl (cB36, 6, .inl f37)), (a6, .inl (cB38, 6, .inl f39)), (a7, .inl (cB40, 6, .inl f41)), (a8, .inl (cB42, 6, .inl f43)), (a9, .inl (cB44, 6, .inl f127)), (a10, .inl (cB46, 6, .inl f128)), (a11, .inl (cB48, 6, .inl f129)), (a1, .inr (4, [g17, g18, .int k19, .int k20, g21, .int k22, .int k23, g24, g25, .ref a3, .ref a4, .ref a5, .ref a6, .ref a7, .ref a8, g26, g27, g28])), (a2, .inr (3, [.int z134, .int z130, g31, .ref a9, .ref a10, .ref a11, .ref a12])), (a3, .inl (cB32, 5, .inl f33)), (a12, .inl (cB50, 5, .inl f131))] := hD
          refine lv_iload_n hx hb dX1_pass_96 rfl (lv_at hl 2 rfl) ?_
          have hP9 := hP.sub (ws' := [(a0, .inr (1, [g13, g14, .int z126, g16])), (a1, .inr (4, [g17, g18, .int k19, .int k20, g21, .int k22, .int k23, g24, g25, .ref a3, .ref a4, .ref a5, .ref a6, .ref a7, .ref a8, g26, g27, g28])), (a2, .inr (3, [.int z134, .int z130, g31, .ref a9, .ref a10, .ref a11, .ref a12])), (a3, .inl (cB32, 5, .inl f33)), (a4, .inl (cB34, 6, .inl f35)), (a5, .inl (cB36, 6, .inl f37)), (a6, .inl (cB38, 6, .inl f39)), (a7, .inl (cB40, 6, .inl f41)), (a8, .inl (cB42, 6, .inl f43)), (a9, .inl (cB44, 6, .inl f127)), (a10, .inl (cB46, 6, .inl f128)), (a11, .inl (cB48, 6, .inl f129)), (a12, .inl (cB50, 5, .inl f131))]) [0, 9, 10, 11, 1, 2, 3, 4, 5, 6, 7, 8, 12] rfl
          have hD9 := hD.sub (ws' := [(a0, .inr (1, [g13, g14, .int z126, g16])), (a1, .inr (4, [g17, g18, .int k19, .int k20, g21, .int k22, .int k23, g24, g25, .ref a3, .ref a4, .ref a5, .ref a6, .ref a7, .ref a8, g26, g27, g28])), (a2, .inr (3, [.int z134, .int z130, g31, .ref a9, .ref a10, .ref a11, .ref a12])), (a3, .inl (cB32, 5, .inl f33)), (a4, .inl (cB34, 6, .inl f35)), (a5, .inl (cB36, 6, .inl f37)), (a6, .inl (cB38, 6, .inl f39)), (a7, .inl (cB40, 6, .inl f41)), (a8, .inl (cB42, 6, .inl f43)), (a9, .inl (cB44, 6, .inl f127)), (a10, .inl (cB46, 6, .inl f128)), (a11, .inl (cB48, 6, .inl f129)), (a12, .inl (cB50, 5, .inl f131))]) [0, 9, 10, 11, 1, 2, 3, 4, 5, 6, 7, 8, 12] (by decide) rfl
          have hK9 := hK.sub (tys' := []) [] rfl
          exact W.iret (v := z125) hx hb hr (fun t ht hW => ⟨⟨z125, (z126, z134, z130, f127, f128, f129, f131), rfl, (by first | trivial | omega | (simp only [ltv_0]; omega)), by rw [ht]; exact hP9, va_K.moved hW.alike hK9, hD9⟩, hS.F ht⟩) hS.2.2 dX1_pass_97
        · simp only [fa_lt, fa_le, fa_eq, ltv_0] at c133
          refine lv_iload hx hb dX1_pass_32 (lv_at hl 1 rfl) ?_
          refine lv_iload hx hb dX1_pass_34 (lv_at hl 0 rfl) ?_
          refine lv_ishr hx hb dX1_pass_36 ?_
          refine lv_topi (fun z135 ez135 => ?_)
          clear ez135
          refine lv_iconst (v := 1) hx hb dX1_pass_37 (by decide) ?_
          refine lv_iand hx hb dX1_pass_38 ?_
          refine lv_topi (fun z136 ez136 => ?_)
          clear ez136
          refine lv_iconst (v := 1) hx hb dX1_pass_39 (by decide) ?_
          refine lv_icmp_ne (tgt := 58) hx hb dX1_pass_40 (by decide) (fun c137 => ?_) (fun c137 => ?_)
          · simp only [fa_lt, fa_le, fa_eq, ltv_0, ltv_1] at c137
            refine lv_iconst (v := (-1)) hx hb dX1_pass_58 (by decide) ?_
            refine lv_istore (lv' := [(6, .int (-1)), (5, .int z124), (4, .int z5), (3, .int z125), (0, .ref a0), (1, .ref a1), (2, .ref a2)]) hx hb dX1_pass_59 hl (by decide) rfl (fun ls hl => ?_)
            refine lv_iload hx hb dX1_pass_61 (lv_at hl 0 rfl) ?_
            refine lv_iconst (v := (-1)) hx hb dX1_pass_63 (by decide) ?_
            refine lv_icmp_eq (tgt := 80) hx hb dX1_pass_64 (by decide) (fun _ => ?_) (fun c138 => absurd c138 (by decide))
            obtain ⟨z139, ez139⟩ : ∃ y : Int32, y = z124 + 1 := ⟨_, rfl⟩
            have tz139 : z139.toInt = z124.toInt + 1 := by rw [ez139, iadd_t (by simp only [ltv_1]; omega) (by simp only [ltv_1]; omega)]; simp only [ltv_1]
            refine lv_iinc (v := z139) (lv' := [(5, .int z139), (6, .int (-1)), (4, .int z5), (3, .int z125), (0, .ref a0), (1, .ref a1), (2, .ref a2)]) hx hb dX1_pass_80 hl (k := 1) rfl (by rw [ez139]; rfl) (by decide) rfl (fun ls hl => ?_)
            refine lv_goto (tgt := 23) hx hb dX1_pass_83 (by decide) ?_
            exact ih23 z139 z125 z126 f127 f128 f129 z130 f131 H locs ls (by first | omega | (simp only [ltv_m1, ltv_0]; omega)) (by first | omega | (simp only [ltv_m1, ltv_0]; omega)) (by first | omega | (simp only [ltv_m1, ltv_0]; omega)) hP hD hS (lv_sub hl [0, 2, 3, 4, 5, 6] rfl)
          · simp only [fa_lt, fa_le, fa_eq, ltv_0, ltv_1] at c137
            refine lv_aload_n hx hb dX1_pass_43 rfl (lv_at hl 4 rfl) ?_
            refine lv_aload_n hx hb dX1_pass_44 rfl (lv_at hl 5 rfl) ?_
            refine lv_aload_n hx hb dX1_pass_45 rfl (lv_at hl 5 rfl) ?_
            refine va_get (D := (dC, dI)) (ci := 3) (v := .ref a12) (C := RX4) (T := TX4) (N := 7) hx hb hts iX1_pass_X4 hown hK hP 10 rfl rfl 6 (by decide) (hts (.fieldLink RX1 68 "HookPier$Now" "line" "[I") (List.mem_of_getElem? (i := 17) rfl)) (fun _ h9 => h9) rfl dX1_pass_46 ?_
            refine lv_iload hx hb dX1_pass_49 (lv_at hl 0 rfl) ?_
            refine va_iald hx hb hK hP 12 9 rfl rfl (vp_in_iff.mpr (by omega)) dX1_pass_51 ?_
            refine lv_topi (fun z140 ez140 => ?_)
            clear ez140
            refine cl_i (wc := [(a1, .inr (4, [g17, g18, .int k19, .int k20, g21, .int k22, .int k23, g24, g25, .ref a3, .ref a4, .ref a5, .ref a6, .ref a7, .ref a8, g26, g27, g28])), (a2, .inr (3, [.int k29, .int z130, g31, .ref a9, .ref a10, .ref a11, .ref a12])), (a4, .inl (cB34, 6, .inl f35)), (a5, .inl (cB36, 6, .inl f37)), (a6, .inl (cB38, 6, .inl f39)), (a7, .inl (cB40, 6, .inl f41)), (a8, .inl (cB42, 6, .inl f43)), (a9, .inl (cB44, 6, .inl f127))]) (wr := [(a0, .inr (1, [g13, g14, .int z126, g16])), (a10, .inl (cB46, 6, .inl f128)), (a11, .inl (cB48, 6, .inl f129)), (a3, .inl (cB32, 5, .inl f33)), (a12, .inl (cB50, 5, .inl f131))]) (va_runS (As := [.ref a1, .ref a2, .int z140]) (rest := []) ⟨hx, hb, hml, hown, hts⟩ (kX1_taker l dC dI a1 a2 z140 a4 a5 a6 a7 a8 a9 (g17) (g18) (.int k19) (.int k20) (g21) (.int k22) k23 (g24) (g25) (.ref a3) (g26) (g27) (g28) (.int k29) z130 (g31) (.ref a10) (.ref a11) (.ref a12) cB34 f35 cB36 f37 cB38 f39 cB40 f41 cB42 f43 cB44 f127 (by first | omega | (simp only [ltv_0]; omega)) H.size) (va_cwS 3 hts gX1_pass_2 rfl rfl rfl (by decide +kernel) ⟨Nat.le_of_ble_eq_true rfl, Nat.le_of_ble_eq_true rfl⟩) (PS (hP.sub (ws' := [(a1, .inr (4, [g17, g18, .int k19, .int k20, g21, .int k22, .int k23, g24, g25, .ref a3, .ref a4, .ref a5, .ref a6, .ref a7, .ref a8, g26, g27, g28])), (a2, .inr (3, [.int k29, .int z130, g31, .ref a9, .ref a10, .ref a11, .ref a12])), (a4, .inl (cB34, 6, .inl f35)), (a5, .inl (cB36, 6, .inl f37)), (a6, .inl (cB38, 6, .inl f39)), (a7, .inl (cB40, 6, .inl f41)), (a8, .inl (cB42, 6, .inl f43)), (a9, .inl (cB44, 6, .inl f127))]) [9, 10, 1, 2, 3, 4, 5, 6] rfl) (hK.sub (tys' := [(cB34, .int), (cB36, .int), (cB38, .int), (cB40, .int), (cB42, .int), (cB44, .int)]) [1, 2, 3, 4, 5, 6] rfl) (hD.sub (ws' := [(a1, .inr (4, [g17, g18, .int k19, .int k20, g21, .int k22, .int k23, g24, g25, .ref a3, .ref a4, .ref a5, .ref a6, .ref a7, .ref a8, g26, g27, g28])), (a2, .inr (3, [.int k29, .int z130, g31, .ref a9, .ref a10, .ref a11, .ref a12])), (a4, .inl (cB34, 6, .inl f35)), (a5, .inl (cB36, 6, .inl f37)), (a6, .inl (cB38, 6, .inl f39)), (a7, .inl (cB40, 6, .inl f41)), (a8, .inl (cB42, 6, .inl f43)), (a9, .inl (cB44, 6, .inl f127))]) [9, 10, 1, 2, 3, 4, 5, 6] (by decide) rfl) hN) rfl rfl hl.1 rfl (lv_room (Nat.le_of_ble_eq_true rfl)) dX1_pass_52 ⟨Nat.le_of_ble_eq_true rfl, Nat.le_of_ble_eq_true rfl⟩) hP hD hK hS hA [9, 10, 1, 2, 3, 4, 5, 6] [0, 7, 8, 11, 12] rfl rfl (by decide) (by decide) (fun z142 z141 H locs hw hP hD hK hS => ?_)
            have b143 := hw
            have hP : va_P (dC, dI) vwCl [(a0, .inr (1, [g13, g14, .int z126, g16])), (a10, .inl (cB46, 6, .inl f128)), (a11, .inl (cB48, 6, .inl f129)), (a3, .inl (cB32, 5, .inl f33)), (a12, .inl (cB50, 5, .inl f131)), (a1, .inr (4, [g17, g18, .int k19, .int k20, g21, .int k22, .int k23, g24, g25, .ref a3, .ref a4, .ref a5, .ref a6, .ref a7, .ref a8, g26, g27, g28])), (a2, .inr (3, [.int k29, .int z141, g31, .ref a9, .ref a10, .ref a11, .ref a12])), (a4, .inl (cB34, 6, .inl f35)), (a5, .inl (cB36, 6, .inl f37)), (a6, .inl (cB38, 6, .inl f39)), (a7, .inl (cB40, 6, .inl f41)), (a8, .inl (cB42, 6, .inl f43)), (a9, .inl (cB44, 6, .inl f127))] H := hP
            have hD : va_D A [(a0, .inr (1, [g13, g14, .int z126, g16])), (a10, .inl (cB46, 6, .inl f128)), (a11, .inl (cB48, 6, .inl f129)), (a3, .inl (cB32, 5, .inl f33)), (a12, .inl (cB50, 5, .inl f131)), (a1, .inr (4, [g17, g18, .int k19, .int k20, g21, .int k22, .int k23, g24, g25, .ref a3, .ref a4, .ref a5, .ref a6, .ref a7, .ref a8, g26, g27, g28])), (a2, .inr (3, [.int k29, .int z141, g31, .ref a9, .ref a10, .ref a11, .ref a12])), (a4, .inl (cB34, 6, .inl f35)), (a5, .inl (cB36, 6, .inl f37)), (a6, .inl (cB38, 6, .inl f39)), (a7, .inl (cB40, 6, .inl f41)), (a8, .inl (cB42, 6, .inl f43)), (a9, .inl (cB44, 6, .inl f127))] := hD
            have hK : va_K (dC, dI) vwCl [(cB32, .int), (cB34, .int), (cB36, .int), (cB38, .int), (cB40, .int), (cB42, .int), (cB44, .int), (cB46, .int), (cB48, .int), (cB50, .int)] s := hK
            refine lv_goto (tgt := 59) hx hb dX1_pass_55 (by decide) ?_
            refine lv_istore (lv' := [(6, .int z142), (5, .int z124), (4, .int z5), (3, .int z125), (0, .ref a0), (1, .ref a1), (2, .ref a2)]) hx hb dX1_pass_59 hl (by decide) rfl (fun ls hl => ?_)
            refine lv_iload hx hb dX1_pass_61 (lv_at hl 0 rfl) ?_
            refine lv_iconst (v := (-1)) hx hb dX1_pass_63 (by decide) ?_
            refine lv_icmp_eq (tgt := 80) hx hb dX1_pass_64 (by decide) (fun c144 => ?_) (fun c144 => ?_)
            · simp only [fa_lt, fa_le, fa_eq, ltv_m1, ltv_0] at c144
              obtain ⟨z145, ez145⟩ : ∃ y : Int32, y = z124 + 1 := ⟨_, rfl⟩
              have tz145 : z145.toInt = z124.toInt + 1 := by rw [ez145, iadd_t (by simp only [ltv_1]; omega) (by simp only [ltv_1]; omega)]; simp only [ltv_1]
              refine lv_iinc (v := z145) (lv' := [(5, .int z145), (6, .int z142), (4, .int z5), (3, .int z125), (0, .ref a0), (1, .ref a1), (2, .ref a2)]) hx hb dX1_pass_80 hl (k := 1) rfl (by rw [ez145]; rfl) (by decide) rfl (fun ls hl => ?_)
              refine lv_goto (tgt := 23) hx hb dX1_pass_83 (by decide) ?_
              exact ih23 z145 z125 z126 f127 f128 f129 z141 f131 H locs ls (by first | omega | (simp only [ltv_0]; omega)) (by first | omega | (simp only [ltv_0]; omega)) (by first | omega | (simp only [ltv_0]; omega)) (hP.sub (ws' := [(a0, .inr (1, [g13, g14, .int z126, g16])), (a4, .inl (cB34, 6, .inl f35)), (a5, .inl (cB36, 6, .inl f37)), (a6, .inl (cB38, 6, .inl f39)), (a7, .inl (cB40, 6, .inl f41)), (a8, .inl (cB42, 6, .inl f43)), (a9, .inl (cB44, 6, .inl f127)), (a10, .inl (cB46, 6, .inl f128)), (a11, .inl (cB48, 6, .inl f129)), (a1, .inr (4, [g17, g18, .int k19, .int k20, g21, .int k22, .int k23, g24, g25, .ref a3, .ref a4, .ref a5, .ref a6, .ref a7, .ref a8, g26, g27, g28])), (a2, .inr (3, [.int k29, .int z141, g31, .ref a9, .ref a10, .ref a11, .ref a12])), (a3, .inl (cB32, 5, .inl f33)), (a12, .inl (cB50, 5, .inl f131))]) [0, 7, 8, 9, 10, 11, 12, 1, 2, 5, 6, 3, 4] rfl) (hD.sub (ws' := [(a0, .inr (1, [g13, g14, .int z126, g16])), (a4, .inl (cB34, 6, .inl f35)), (a5, .inl (cB36, 6, .inl f37)), (a6, .inl (cB38, 6, .inl f39)), (a7, .inl (cB40, 6, .inl f41)), (a8, .inl (cB42, 6, .inl f43)), (a9, .inl (cB44, 6, .inl f127)), (a10, .inl (cB46, 6, .inl f128)), (a11, .inl (cB48, 6, .inl f129)), (a1, .inr (4, [g17, g18, .int k19, .int k20, g21, .int k22, .int k23, g24, g25, .ref a3, .ref a4, .ref a5, .ref a6, .ref a7, .ref a8, g26, g27, g28])), (a2, .inr (3, [.int k29, .int z141, g31, .ref a9, .ref a10, .ref a11, .ref a12])), (a3, .inl (cB32, 5, .inl f33)), (a12, .inl (cB50, 5, .inl f131))]) [0, 7, 8, 9, 10, 11, 12, 1, 2, 5, 6, 3, 4] (by decide) rfl) hS (lv_sub hl [0, 2, 3, 4, 5, 6] rfl)
            · simp only [fa_lt, fa_le, fa_eq, ltv_m1, ltv_0] at c144
              refine lv_iload_n hx hb dX1_pass_67 rfl (lv_at hl 3 rfl) ?_
              refine lv_aload_n hx hb dX1_pass_68 rfl (lv_at hl 4 rfl) ?_
              refine lv_aload_n hx hb dX1_pass_69 rfl (lv_at hl 5 rfl) ?_
              refine lv_aload_n hx hb dX1_pass_70 rfl (lv_at hl 6 rfl) ?_
              refine lv_iload hx hb dX1_pass_71 (lv_at hl 1 rfl) ?_
              refine lv_iload hx hb dX1_pass_73 (lv_at hl 0 rfl) ?_
              refine cl_i (wc := [(a0, .inr (1, [g13, g14, .int z126, g16])), (a1, .inr (4, [g17, g18, .int k19, .int k20, g21, .int k22, .int k23, g24, g25, .ref a3, .ref a4, .ref a5, .ref a6, .ref a7, .ref a8, g26, g27, g28])), (a2, .inr (3, [.int k29, .int z141, g31, .ref a9, .ref a10, .ref a11, .ref a12])), (a4, .inl (cB34, 6, .inl f35)), (a9, .inl (cB44, 6, .inl f127)), (a10, .inl (cB46, 6, .inl f128)), (a11, .inl (cB48, 6, .inl f129)), (a12, .inl (cB50, 5, .inl f131))]) (wr := [(a3, .inl (cB32, 5, .inl f33)), (a5, .inl (cB36, 6, .inl f37)), (a6, .inl (cB38, 6, .inl f39)), (a7, .inl (cB40, 6, .inl f41)), (a8, .inl (cB42, 6, .inl f43))]) (va_runV (As := [.ref a1, .ref a2, .int z124, .int z142]) (rest := [.int z125]) ⟨hx, hb, hml, hown, hts⟩ (kX1_taken l dC dI a0 a1 a2 z124 z142 a4 a9 a10 a11 a12 (g13) (g14) z126 (g16) (g17) (g18) (.int k19) (.int k20) (g21) (.int k22) (.int k23) (g24) (g25) (.ref a3) (.ref a5) (.ref a6) (.ref a7) (.ref a8) (g26) (g27) (g28) k29 (.int z141) (g31) cB34 f35 cB44 f127 cB46 f128 cB48 f129 cB50 f131 (by first | omega | (simp only [ltv_0]; omega)) (by first | omega | (simp only [ltv_0]; omega)) H.size) (cwV 4 hts gX1_pass_3 rfl rfl rfl (by decide +kernel) ⟨Nat.le_of_ble_eq_true rfl, Nat.le_of_ble_eq_true rfl⟩) (PV (hP.sub (ws' := [(a0, .inr (1, [g13, g14, .int z126, g16])), (a1, .inr (4, [g17, g18, .int k19, .int k20, g21, .int k22, .int k23, g24, g25, .ref a3, .ref a4, .ref a5, .ref a6, .ref a7, .ref a8, g26, g27, g28])), (a2, .inr (3, [.int k29, .int z141, g31, .ref a9, .ref a10, .ref a11, .ref a12])), (a4, .inl (cB34, 6, .inl f35)), (a9, .inl (cB44, 6, .inl f127)), (a10, .inl (cB46, 6, .inl f128)), (a11, .inl (cB48, 6, .inl f129)), (a12, .inl (cB50, 5, .inl f131))]) [0, 5, 6, 7, 12, 1, 2, 4] rfl) (hK.sub (tys' := [(cB34, .int), (cB44, .int), (cB46, .int), (cB48, .int), (cB50, .int)]) [1, 6, 7, 8, 9] rfl) (hD.sub (ws' := [(a0, .inr (1, [g13, g14, .int z126, g16])), (a1, .inr (4, [g17, g18, .int k19, .int k20, g21, .int k22, .int k23, g24, g25, .ref a3, .ref a4, .ref a5, .ref a6, .ref a7, .ref a8, g26, g27, g28])), (a2, .inr (3, [.int k29, .int z141, g31, .ref a9, .ref a10, .ref a11, .ref a12])), (a4, .inl (cB34, 6, .inl f35)), (a9, .inl (cB44, 6, .inl f127)), (a10, .inl (cB46, 6, .inl f128)), (a11, .inl (cB48, 6, .inl f129)), (a12, .inl (cB50, 5, .inl f131))]) [0, 5, 6, 7, 12, 1, 2, 4] (by decide) rfl) hN 0 rfl rfl) rfl rfl hl.1 rfl (lv_room (Nat.le_of_ble_eq_true rfl)) dX1_pass_75 ⟨Nat.le_of_ble_eq_true rfl, Nat.le_of_ble_eq_true rfl⟩) hP hD hK hS hA [0, 5, 6, 7, 12, 1, 2, 4] [3, 8, 9, 10, 11] rfl rfl (by decide) (by decide) (fun z151 u H locs hw hP hD hK hS => ?_)
              obtain ⟨z146, f147, f148, f149, f150⟩ := u
              have b152 := hw
              have hP : va_P (dC, dI) vwCl [(a3, .inl (cB32, 5, .inl f33)), (a5, .inl (cB36, 6, .inl f37)), (a6, .inl (cB38, 6, .inl f39)), (a7, .inl (cB40, 6, .inl f41)), (a8, .inl (cB42, 6, .inl f43)), (a0, .inr (1, [g13, g14, .int z146, g16])), (a1, .inr (4, [g17, g18, .int k19, .int k20, g21, .int k22, .int k23, g24, g25, .ref a3, .ref a4, .ref a5, .ref a6, .ref a7, .ref a8, g26, g27, g28])), (a2, .inr (3, [.int k29, .int z141, g31, .ref a9, .ref a10, .ref a11, .ref a12])), (a4, .inl (cB34, 6, .inl f35)), (a9, .inl (cB44, 6, .inl f147)), (a10, .inl (cB46, 6, .inl f148)), (a11, .inl (cB48, 6, .inl f149)), (a12, .inl (cB50, 5, .inl f150))] H := hP
              have hD : va_D A [(a3, .inl (cB32, 5, .inl f33)), (a5, .inl (cB36, 6, .inl f37)), (a6, .inl (cB38, 6, .inl f39)), (a7, .inl (cB40, 6, .inl f41)), (a8, .inl (cB42, 6, .inl f43)), (a0, .inr (1, [g13, g14, .int z146, g16])), (a1, .inr (4, [g17, g18, .int k19, .int k20, g21, .int k22, .int k23, g24, g25, .ref a3, .ref a4, .ref a5, .ref a6, .ref a7, .ref a8, g26, g27, g28])), (a2, .inr (3, [.int k29, .int z141, g31, .ref a9, .ref a10, .ref a11, .ref a12])), (a4, .inl (cB34, 6, .inl f35)), (a9, .inl (cB44, 6, .inl f147)), (a10, .inl (cB46, 6, .inl f148)), (a11, .inl (cB48, 6, .inl f149)), (a12, .inl (cB50, 5, .inl f150))] := hD
              have hK : va_K (dC, dI) vwCl [(cB32, .int), (cB34, .int), (cB36, .int), (cB38, .int), (cB40, .int), (cB42, .int), (cB44, .int), (cB46, .int), (cB48, .int), (cB50, .int)] s := hK
              refine lv_ior hx hb dX1_pass_78 ?_
              refine lv_topi (fun z153 ez153 => ?_)
              have tz153 : 0 ≤ z153.toInt ∧ z153.toInt ≤ 63 := by rw [ez153]; have h9 := ior_t 6 63 rfl (by decide) (x := z125) (y := z151) (by first | omega | (simp only [ltv_0]; omega)) (by first | omega | (simp only [ltv_0]; omega)); omega
              refine lv_istore_n (lv' := [(3, .int z153), (6, .int z142), (5, .int z124), (4, .int z5), (0, .ref a0), (1, .ref a1), (2, .ref a2)]) hx hb dX1_pass_79 rfl hl (by decide) rfl (fun ls hl => ?_)
              obtain ⟨z154, ez154⟩ : ∃ y : Int32, y = z124 + 1 := ⟨_, rfl⟩
              have tz154 : z154.toInt = z124.toInt + 1 := by rw [ez154, iadd_t (by simp only [ltv_1]; omega) (by simp only [ltv_1]; omega)]; simp only [ltv_1]
              refine lv_iinc (v := z154) (lv' := [(5, .int z154), (3, .int z153), (6, .int z142), (4, .int z5), (0, .ref a0), (1, .ref a1), (2, .ref a2)]) hx hb dX1_pass_80 hl (k := 2) rfl (by rw [ez154]; rfl) (by decide) rfl (fun ls hl => ?_)
              refine lv_goto (tgt := 23) hx hb dX1_pass_83 (by decide) ?_
              exact ih23 z154 z153 z146 f147 f148 f149 z141 f150 H locs ls (by first | omega | (simp only [ltv_0]; omega)) (by first | omega | (simp only [ltv_0]; omega)) (by first | omega | (simp only [ltv_0]; omega)) (hP.sub (ws' := [(a0, .inr (1, [g13, g14, .int z146, g16])), (a4, .inl (cB34, 6, .inl f35)), (a5, .inl (cB36, 6, .inl f37)), (a6, .inl (cB38, 6, .inl f39)), (a7, .inl (cB40, 6, .inl f41)), (a8, .inl (cB42, 6, .inl f43)), (a9, .inl (cB44, 6, .inl f147)), (a10, .inl (cB46, 6, .inl f148)), (a11, .inl (cB48, 6, .inl f149)), (a1, .inr (4, [g17, g18, .int k19, .int k20, g21, .int k22, .int k23, g24, g25, .ref a3, .ref a4, .ref a5, .ref a6, .ref a7, .ref a8, g26, g27, g28])), (a2, .inr (3, [.int k29, .int z141, g31, .ref a9, .ref a10, .ref a11, .ref a12])), (a3, .inl (cB32, 5, .inl f33)), (a12, .inl (cB50, 5, .inl f150))]) [5, 8, 1, 2, 3, 4, 9, 10, 11, 6, 7, 0, 12] rfl) (hD.sub (ws' := [(a0, .inr (1, [g13, g14, .int z146, g16])), (a4, .inl (cB34, 6, .inl f35)), (a5, .inl (cB36, 6, .inl f37)), (a6, .inl (cB38, 6, .inl f39)), (a7, .inl (cB40, 6, .inl f41)), (a8, .inl (cB42, 6, .inl f43)), (a9, .inl (cB44, 6, .inl f147)), (a10, .inl (cB46, 6, .inl f148)), (a11, .inl (cB48, 6, .inl f149)), (a1, .inr (4, [g17, g18, .int k19, .int k20, g21, .int k22, .int k23, g24, g25, .ref a3, .ref a4, .ref a5, .ref a6, .ref a7, .ref a8, g26, g27, g28])), (a2, .inr (3, [.int k29, .int z141, g31, .ref a9, .ref a10, .ref a11, .ref a12])), (a3, .inl (cB32, 5, .inl f33)), (a12, .inl (cB50, 5, .inl f150))]) [5, 8, 1, 2, 3, 4, 9, 10, 11, 6, 7, 0, 12] (by decide) rfl) hS (lv_sub hl [0, 3, 1, 4, 5, 6] rfl)
    exact L23_132 6 (0) (0) k15 f45 f47 f49 k30 f51 H _ ls (by first | omega | (simp only [ltv_0]; omega)) (by first | omega | (simp only [ltv_0]; omega)) (by first | omega | (simp only [ltv_0]; omega)) hP hD hS (lv_sub hl [0, 1, 2, 3, 4, 5] rfl)
theorem dX1_note_0 : decode cX1_note 0 = .ok (.aload_n 0, 1) := by decide +kernel
theorem dX1_note_1 : decode cX1_note 1 = .ok (.dup, 1) := by decide +kernel
theorem dX1_note_10 : decode cX1_note 10 = .ok (.putfield 18, 3) := by decide +kernel
theorem dX1_note_13 : decode cX1_note 13 = .ok (.iconst 0, 1) := by decide +kernel
theorem dX1_note_14 : decode cX1_note 14 = .ok (.istore_n 3, 1) := by decide +kernel
theorem dX1_note_15 : decode cX1_note 15 = .ok (.iload_n 3, 1) := by decide +kernel
theorem dX1_note_16 : decode cX1_note 16 = .ok (.aload_n 0, 1) := by decide +kernel
theorem dX1_note_17 : decode cX1_note 17 = .ok (.getfield 25, 3) := by decide +kernel
theorem dX1_note_2 : decode cX1_note 2 = .ok (.getfield 18, 3) := by decide +kernel
theorem dX1_note_20 : decode cX1_note 20 = .ok (.arraylength, 1) := by decide +kernel
theorem dX1_note_21 : decode cX1_note 21 = .ok (.if_icmp .ge 25, 3) := by decide +kernel
theorem dX1_note_24 : decode cX1_note 24 = .ok (.iload_n 1, 1) := by decide +kernel
theorem dX1_note_25 : decode cX1_note 25 = .ok (.iload_n 3, 1) := by decide +kernel
theorem dX1_note_26 : decode cX1_note 26 = .ok (.ishr, 1) := by decide +kernel
theorem dX1_note_27 : decode cX1_note 27 = .ok (.iconst 1, 1) := by decide +kernel
theorem dX1_note_28 : decode cX1_note 28 = .ok (.iand, 1) := by decide +kernel
theorem dX1_note_29 : decode cX1_note 29 = .ok (.iconst 1, 1) := by decide +kernel
theorem dX1_note_30 : decode cX1_note 30 = .ok (.if_icmp .ne 10, 3) := by decide +kernel
theorem dX1_note_33 : decode cX1_note 33 = .ok (.aload_n 0, 1) := by decide +kernel
theorem dX1_note_34 : decode cX1_note 34 = .ok (.getfield 25, 3) := by decide +kernel
theorem dX1_note_37 : decode cX1_note 37 = .ok (.iload_n 3, 1) := by decide +kernel
theorem dX1_note_38 : decode cX1_note 38 = .ok (.iload_n 2, 1) := by decide +kernel
theorem dX1_note_39 : decode cX1_note 39 = .ok (.iastore, 1) := by decide +kernel
theorem dX1_note_40 : decode cX1_note 40 = .ok (.iinc 3 1, 3) := by decide +kernel
theorem dX1_note_43 : decode cX1_note 43 = .ok (.goto (-28), 3) := by decide +kernel
theorem dX1_note_46 : decode cX1_note 46 = .ok (.return_, 1) := by decide +kernel
theorem dX1_note_5 : decode cX1_note 5 = .ok (.iload_n 1, 1) := by decide +kernel
theorem dX1_note_6 : decode cX1_note 6 = .ok (.invokestatic 47, 3) := by decide +kernel
theorem dX1_note_9 : decode cX1_note 9 = .ok (.iadd, 1) := by decide +kernel
def vX1_note : List Cond := .code yX1_note cX1_note 4 none :: ([.fieldLink RX1 18 "HookPier$Days" "landedMany" "I", .methodLink RX1 47 yJ6_bitCount_0f7a4, .static yJ6_bitCount_0f7a4, .initialized RJ6, .code yJ6_bitCount_0f7a4 cJ6_bitCount_0f7a4 1 (some .int), .constant RJ6 265 (1431655765), .constant RJ6 266 (858993459), .constant RJ6 267 (252645135), .fieldLink RX1 25 "HookPier$Days" "landedInDay" "[I"] ++ wsX10)
theorem iX1_note_X1 : ∀ w ∈ wsX10, w ∈ vX1_note := fun _ h => List.mem_cons_of_mem _ (List.mem_append_right _ h)
set_option maxRecDepth 20000 in
theorem gX1_note_0 : GoodIn vX1_note (va_wsS RX1 47 yJ6_bitCount_0f7a4 vJ6_bitCount_0f7a4) := goodIn_app (goodIn_r [.methodLink RX1 47 yJ6_bitCount_0f7a4, .static yJ6_bitCount_0f7a4, .initialized RJ6] [2, 3, 4] (by decide +kernel) (by decide +kernel)) (goodIn_r (.code yJ6_bitCount_0f7a4 cJ6_bitCount_0f7a4 1 (some .int) :: [.constant RJ6 265 (1431655765), .constant RJ6 266 (858993459), .constant RJ6 267 (252645135)]) [5, 6, 7, 8] (by decide +kernel) (by decide +kernel) : GoodIn vX1_note (.code yJ6_bitCount_0f7a4 cJ6_bitCount_0f7a4 1 (some .int) :: [.constant RJ6 265 (1431655765), .constant RJ6 266 (858993459), .constant RJ6 267 (252645135)]))
set_option maxHeartbeats 2000000 in
set_option maxRecDepth 100000 in
theorem kX1_note (l : Launch) (dC : Nat → ClassId) (dI : Nat → Nat → Nat) (a0 : Nat) (k1 : Int32) (k2 : Int32) (a3 : Nat) (g4 : Value) (k5 : Int32) (g6 : Value) (cB7 : ClassId) (f8 : Nat → Int32) (sz : Nat) : Met l yX1_note vX1_note ({ frames := 1, cells := 0, slots := 0, locals := 20 }) (PC (dC, dI) [.ref a0, .int k1, .int k2] sz [(a0, .inr (1, [g4, .int k5, g6, .ref a3])), (a3, .inl (cB7, 6, .inl f8))] [(cB7, .int)]) (va_Qv (S := Int32 × (Nat → Int32)) (fun u => True) (fun u t => BC (dC, dI) (va_A [(a0, .inr (1, [g4, .int k5, g6, .ref a3])), (a3, .inl (cB7, 6, .inl f8))] sz) [(a0, .inr (1, [g4, .int (u.1), g6, .ref a3])), (a3, .inl (cB7, 6, .inl (u.2)))] [] t) (va_A [(a0, .inr (1, [g4, .int k5, g6, .ref a3])), (a3, .inl (cB7, 6, .inl f8))] sz)) 0 0 (va_A [(a0, .inr (1, [g4, .int k5, g6, .ref a3])), (a3, .inl (cB7, 6, .inl f8))] sz) := by
  refine Met.ofW (cc := cX1_note) (maxL := 4) (ret := none) (by decide) rfl ?_
  intro p e s m args below meth c s₁ B hml hv
  obtain ⟨rfl, hsz, hP, hK, hD0, hN⟩ := hv
  have hx := B.exec
  have hb := B.bytes
  have hr := B.returns
  have hts := atoms_spec (ws := vX1_note) B.pre
  have hown : s.vm.findClass RX1 = some m.cls := findClass_of_methodNamed B.named
  have hlocks := B.notSynchronized
  subst hsz
  have hD := hD0.self (sz := s.heap.size)
  generalize hAe : va_A [(a0, .inr (1, [g4, .int k5, g6, .ref a3])), (a3, .inl (cB7, 6, .inl f8))] s.heap.size = A at hD ⊢
  have hA : ∀ q : Nat, s.heap.size ≤ q → A q := fun q h => by rw [← hAe]; exact Or.inr h
  have hS : va_S A s.heap s.heap [] := va_S.rf
  have hP : va_P (dC, dI) vwCl [(a0, .inr (1, [g4, .int k5, g6, .ref a3])), (a3, .inl (cB7, 6, .inl f8))] s.heap := hP
  have hl := lv_entry ([.ref a0, .int k1, .int k2]) (n := 4) (Nat.le_of_ble_eq_true rfl)
  rw [lg_entry_eq]
  generalize (lg_sl ([.ref a0, .int k1, .int k2]) ++ List.replicate (4 - (lg_sl ([.ref a0, .int k1, .int k2])).length) Slot.unset).toArray = ls at hl ⊢
  have hl : lv_has ls 4 [(0, .ref a0), (1, .int k1), (2, .int k2)] := hl
  refine lv_aload_n hx hb dX1_note_0 rfl (lv_at hl 0 rfl) ?_
  refine lv_dup hx hb dX1_note_1 rfl ?_
  refine va_get (D := (dC, dI)) (ci := 1) (v := .int k5) (C := RX1) (T := TX1) (N := 4) hx hb hts iX1_note_X1 hown hK hP 0 rfl rfl 1 (by decide) (hts (.fieldLink RX1 18 "HookPier$Days" "landedMany" "I") (List.mem_of_getElem? (i := 1) rfl)) (fun _ h9 => h9) rfl dX1_note_2 ?_
  refine lv_iload_n hx hb dX1_note_5 rfl (lv_at hl 1 rfl) ?_
  refine cl_i (wc := []) (wr := [(a0, .inr (1, [g4, .int k5, g6, .ref a3])), (a3, .inl (cB7, 6, .inl f8))]) (va_runS (As := [.int k1]) (rest := [.int k5, .ref a0]) ⟨hx, hb, hml, hown, hts⟩ (kJ6_bitCount_0f7a4 l dC dI k1  s.heap.size) (va_cwS 1 hts gX1_note_0 rfl rfl rfl (by decide +kernel) ⟨Nat.le_of_ble_eq_true rfl, Nat.le_of_ble_eq_true rfl⟩) (PS (hP.sub (ws' := []) [] rfl) (hK.sub (tys' := []) [] rfl) (hD.sub (ws' := []) [] (by decide) rfl) hN) rfl rfl hl.1 rfl (lv_room (Nat.le_of_ble_eq_true rfl)) dX1_note_6 ⟨Nat.le_of_ble_eq_true rfl, Nat.le_of_ble_eq_true rfl⟩) hP hD hK hS hA [] [0, 1] rfl rfl (by decide) (by decide) (fun z1 _u H locs hw hP hD hK hS => ?_)
  have b2 := hw
  have hP : va_P (dC, dI) vwCl [(a0, .inr (1, [g4, .int k5, g6, .ref a3])), (a3, .inl (cB7, 6, .inl f8))] H := hP
  have hD : va_D A [(a0, .inr (1, [g4, .int k5, g6, .ref a3])), (a3, .inl (cB7, 6, .inl f8))] := hD
  have hK : va_K (dC, dI) vwCl [(cB7, .int)] s := hK
  refine lv_iadd hx hb dX1_note_9 ?_
  refine lv_topi (fun z3 ez3 => ?_)
  clear ez3
  refine va_put (D := (dC, dI)) (ci := 1) (v := .int z3) (ty := .int) (C := RX1) (T := TX1) (N := 4) hx hb hts iX1_note_X1 tyX1 tyX1_ok nmX1 hown hK hP hD hS 0 rfl rfl 1 (by decide) (hts (.fieldLink RX1 18 "HookPier$Days" "landedMany" "I") (List.mem_of_getElem? (i := 1) rfl)) (fun _ h9 => h9) rfl (by decide +kernel) rfl rfl (Nat.le_of_ble_eq_true rfl) dX1_note_10 (fun H locs hP hD hS => ?_)
  have hP : va_P (dC, dI) vwCl [(a0, .inr (1, [g4, .int z3, g6, .ref a3])), (a3, .inl (cB7, 6, .inl f8))] H := hP
  have hD : va_D A [(a0, .inr (1, [g4, .int z3, g6, .ref a3])), (a3, .inl (cB7, 6, .inl f8))] := hD
  refine lv_iconst (v := 0) hx hb dX1_note_13 (by decide) ?_
  refine lv_istore_n (lv' := [(3, .int 0), (0, .ref a0), (1, .int k1), (2, .int k2)]) hx hb dX1_note_14 rfl hl (by decide) rfl (fun ls hl => ?_)
  have L15_53 : ∀ (n : Nat) (z51 : Int32) (f52 : Nat → Int32) (H : Heap) (locs : List Loc) (ls : Array Slot), (0 ≤ z51.toInt ∧ z51.toInt ≤ 6) → 6 - z51.toInt < (n : Int) → va_P (dC, dI) vwCl [(a0, .inr (1, [g4, .int z3, g6, .ref a3])), (a3, .inl (cB7, 6, .inl f52))] H → va_D A [(a0, .inr (1, [g4, .int z3, g6, .ref a3])), (a3, .inl (cB7, 6, .inl f52))] → va_S A s.heap H locs → lv_has ls 4 [(3, .int z51), (0, .ref a0), (1, .int k1), (2, .int k2)] → W p l e (headSpec vX1_note { frames := 1, cells := 0, slots := 0, locals := 20 }).room s m ([.ref a0, .int k1, .int k2]).toArray below meth c H locs 0 0 (MQ below (va_Qv (S := Int32 × (Nat → Int32)) (fun u => True) (fun u t => BC (dC, dI) A [(a0, .inr (1, [g4, .int (u.1), g6, .ref a3])), (a3, .inl (cB7, 6, .inl (u.2)))] [] t) A) ([.ref a0, .int k1, .int k2]).toArray s 0 0 A) (F0 m 15 ls []) := by
    intro n
    induction n with
    | zero =>
      intro z51 f52 H locs ls b15_0 hm _ _ _ _
      exact absurd hm (by omega)
    | succ n ih15 =>
      intro z51 f52 H locs ls b15_0 hm15 hP hD hS hl
      refine lv_iload_n hx hb dX1_note_15 rfl (lv_at hl 0 rfl) ?_
      refine lv_aload_n hx hb dX1_note_16 rfl (lv_at hl 1 rfl) ?_
      refine va_get (D := (dC, dI)) (ci := 1) (v := .ref a3) (C := RX1) (T := TX1) (N := 4) hx hb hts iX1_note_X1 hown hK hP 0 rfl rfl 3 (by decide) (hts (.fieldLink RX1 25 "HookPier$Days" "landedInDay" "[I") (List.mem_of_getElem? (i := 9) rfl)) (fun _ h9 => h9) rfl dX1_note_17 ?_
      refine va_alen (v := 6) hx hb hK hP 1 0 rfl rfl rfl dX1_note_20 ?_
      refine lv_icmp_ge (tgt := 46) hx hb dX1_note_21 (by decide) (fun c54 => ?_) (fun c54 => ?_)
      · simp only [fa_lt, fa_le, fa_eq, ltv_0, ltv_6] at c54
        have hP9 := hP.sub (ws' := [(a0, .inr (1, [g4, .int z3, g6, .ref a3])), (a3, .inl (cB7, 6, .inl f52))]) [0, 1] rfl
        have hD9 := hD.sub (ws' := [(a0, .inr (1, [g4, .int z3, g6, .ref a3])), (a3, .inl (cB7, 6, .inl f52))]) [0, 1] (by decide) rfl
        have hK9 := hK.sub (tys' := []) [] rfl
        exact W.vret hx hb hr (fun t ht hW => ⟨⟨(z3, f52), rfl, trivial, by rw [ht]; exact hP9, va_K.moved hW.alike hK9, hD9⟩, hS.F ht⟩) hS.2.2 dX1_note_46
      · simp only [fa_lt, fa_le, fa_eq, ltv_0, ltv_6] at c54
        refine lv_iload_n hx hb dX1_note_24 rfl (lv_at hl 2 rfl) ?_
        refine lv_iload_n hx hb dX1_note_25 rfl (lv_at hl 0 rfl) ?_
        refine lv_ishr hx hb dX1_note_26 ?_
        refine lv_topi (fun z55 ez55 => ?_)
        clear ez55
        refine lv_iconst (v := 1) hx hb dX1_note_27 (by decide) ?_
        refine lv_iand hx hb dX1_note_28 ?_
        refine lv_topi (fun z56 ez56 => ?_)
        clear ez56
        refine lv_iconst (v := 1) hx hb dX1_note_29 (by decide) ?_
        refine lv_icmp_ne (tgt := 40) hx hb dX1_note_30 (by decide) (fun c57 => ?_) (fun c57 => ?_)
        · simp only [fa_lt, fa_le, fa_eq, ltv_0, ltv_1] at c57
          obtain ⟨z58, ez58⟩ : ∃ y : Int32, y = z51 + 1 := ⟨_, rfl⟩
          have tz58 : z58.toInt = z51.toInt + 1 := by rw [ez58, iadd_t (by simp only [ltv_1]; omega) (by simp only [ltv_1]; omega)]; simp only [ltv_1]
          refine lv_iinc (v := z58) (lv' := [(3, .int z58), (0, .ref a0), (1, .int k1), (2, .int k2)]) hx hb dX1_note_40 hl (k := 0) rfl (by rw [ez58]; rfl) (by decide) rfl (fun ls hl => ?_)
          refine lv_goto (tgt := 15) hx hb dX1_note_43 (by decide) ?_
          exact ih15 z58 f52 H locs ls (by first | omega | (simp only [ltv_0]; omega)) (by first | omega | (simp only [ltv_0]; omega)) hP hD hS (lv_sub hl [0, 1, 2, 3] rfl)
        · simp only [fa_lt, fa_le, fa_eq, ltv_0, ltv_1] at c57
          refine lv_aload_n hx hb dX1_note_33 rfl (lv_at hl 1 rfl) ?_
          refine va_get (D := (dC, dI)) (ci := 1) (v := .ref a3) (C := RX1) (T := TX1) (N := 4) hx hb hts iX1_note_X1 hown hK hP 0 rfl rfl 3 (by decide) (hts (.fieldLink RX1 25 "HookPier$Days" "landedInDay" "[I") (List.mem_of_getElem? (i := 9) rfl)) (fun _ h9 => h9) rfl dX1_note_34 ?_
          refine lv_iload_n hx hb dX1_note_37 rfl (lv_at hl 0 rfl) ?_
          refine lv_iload_n hx hb dX1_note_38 rfl (lv_at hl 3 rfl) ?_
          refine va_iast hx hb hK hP hD hS 1 0 rfl rfl (vp_in_iff.mpr (by omega)) dX1_note_39 (fun H locs hP hD hS => ?_)
          have hP : va_P (dC, dI) vwCl [(a0, .inr (1, [g4, .int z3, g6, .ref a3])), (a3, .inl (cB7, 6, .inl (upd f52 (z51 : Int32).toNatClampNeg k2)))] H := hP
          have hD : va_D A [(a0, .inr (1, [g4, .int z3, g6, .ref a3])), (a3, .inl (cB7, 6, .inl (upd f52 (z51 : Int32).toNatClampNeg k2)))] := hD
          generalize upd f52 (z51 : Int32).toNatClampNeg k2 = f59 at hP hD
          obtain ⟨z60, ez60⟩ : ∃ y : Int32, y = z51 + 1 := ⟨_, rfl⟩
          have tz60 : z60.toInt = z51.toInt + 1 := by rw [ez60, iadd_t (by simp only [ltv_1]; omega) (by simp only [ltv_1]; omega)]; simp only [ltv_1]
          refine lv_iinc (v := z60) (lv' := [(3, .int z60), (0, .ref a0), (1, .int k1), (2, .int k2)]) hx hb dX1_note_40 hl (k := 0) rfl (by rw [ez60]; rfl) (by decide) rfl (fun ls hl => ?_)
          refine lv_goto (tgt := 15) hx hb dX1_note_43 (by decide) ?_
          exact ih15 z60 f59 H locs ls (by first | omega | (simp only [ltv_0]; omega)) (by first | omega | (simp only [ltv_0]; omega)) hP hD hS (lv_sub hl [0, 1, 2, 3] rfl)
  exact L15_53 7 (0) f8 H _ ls (by first | omega | (simp only [ltv_0]; omega)) (by first | omega | (simp only [ltv_0]; omega)) hP hD hS (lv_sub hl [0, 1, 2, 3] rfl)
theorem dX1_forecast_0 : decode cX1_forecast 0 = .ok (.aload_n 0, 1) := by decide +kernel
theorem dX1_forecast_1 : decode cX1_forecast 1 = .ok (.getfield 12, 3) := by decide +kernel
theorem dX1_forecast_12 : decode cX1_forecast 12 = .ok (.iload_n 3, 1) := by decide +kernel
theorem dX1_forecast_13 : decode cX1_forecast 13 = .ok (.putfield 33, 3) := by decide +kernel
theorem dX1_forecast_16 : decode cX1_forecast 16 = .ok (.aload_n 0, 1) := by decide +kernel
theorem dX1_forecast_17 : decode cX1_forecast 17 = .ok (.iconst 0, 1) := by decide +kernel
theorem dX1_forecast_18 : decode cX1_forecast 18 = .ok (.putfield 18, 3) := by decide +kernel
theorem dX1_forecast_21 : decode cX1_forecast 21 = .ok (.aload_n 0, 1) := by decide +kernel
theorem dX1_forecast_22 : decode cX1_forecast 22 = .ok (.iconst 0, 1) := by decide +kernel
theorem dX1_forecast_23 : decode cX1_forecast 23 = .ok (.putfield 22, 3) := by decide +kernel
theorem dX1_forecast_26 : decode cX1_forecast 26 = .ok (.iconst 0, 1) := by decide +kernel
theorem dX1_forecast_27 : decode cX1_forecast 27 = .ok (.istore 5, 2) := by decide +kernel
theorem dX1_forecast_29 : decode cX1_forecast 29 = .ok (.iload 5, 2) := by decide +kernel
theorem dX1_forecast_31 : decode cX1_forecast 31 = .ok (.aload_n 0, 1) := by decide +kernel
theorem dX1_forecast_32 : decode cX1_forecast 32 = .ok (.getfield 25, 3) := by decide +kernel
theorem dX1_forecast_35 : decode cX1_forecast 35 = .ok (.arraylength, 1) := by decide +kernel
theorem dX1_forecast_36 : decode cX1_forecast 36 = .ok (.if_icmp .ge 17, 3) := by decide +kernel
theorem dX1_forecast_39 : decode cX1_forecast 39 = .ok (.aload_n 0, 1) := by decide +kernel
theorem dX1_forecast_4 : decode cX1_forecast 4 = .ok (.aload_n 2, 1) := by decide +kernel
theorem dX1_forecast_40 : decode cX1_forecast 40 = .ok (.getfield 25, 3) := by decide +kernel
theorem dX1_forecast_43 : decode cX1_forecast 43 = .ok (.iload 5, 2) := by decide +kernel
theorem dX1_forecast_45 : decode cX1_forecast 45 = .ok (.iconst 0, 1) := by decide +kernel
theorem dX1_forecast_46 : decode cX1_forecast 46 = .ok (.iastore, 1) := by decide +kernel
theorem dX1_forecast_47 : decode cX1_forecast 47 = .ok (.iinc 5 1, 3) := by decide +kernel
theorem dX1_forecast_5 : decode cX1_forecast 5 = .ok (.invokevirtual 29, 3) := by decide +kernel
theorem dX1_forecast_50 : decode cX1_forecast 50 = .ok (.goto (-21), 3) := by decide +kernel
theorem dX1_forecast_53 : decode cX1_forecast 53 = .ok (.iconst 1, 1) := by decide +kernel
theorem dX1_forecast_54 : decode cX1_forecast 54 = .ok (.istore 5, 2) := by decide +kernel
theorem dX1_forecast_56 : decode cX1_forecast 56 = .ok (.iload 5, 2) := by decide +kernel
theorem dX1_forecast_58 : decode cX1_forecast 58 = .ok (.iload 4, 2) := by decide +kernel
theorem dX1_forecast_60 : decode cX1_forecast 60 = .ok (.if_icmp .gt 32, 3) := by decide +kernel
theorem dX1_forecast_63 : decode cX1_forecast 63 = .ok (.aload_n 0, 1) := by decide +kernel
theorem dX1_forecast_64 : decode cX1_forecast 64 = .ok (.getfield 12, 3) := by decide +kernel
theorem dX1_forecast_67 : decode cX1_forecast 67 = .ok (.aload_n 2, 1) := by decide +kernel
theorem dX1_forecast_68 : decode cX1_forecast 68 = .ok (.invokevirtual 36, 3) := by decide +kernel
theorem dX1_forecast_71 : decode cX1_forecast 71 = .ok (.aload_n 0, 1) := by decide +kernel
theorem dX1_forecast_72 : decode cX1_forecast 72 = .ok (.aload_n 0, 1) := by decide +kernel
theorem dX1_forecast_73 : decode cX1_forecast 73 = .ok (.aload_n 1, 1) := by decide +kernel
theorem dX1_forecast_74 : decode cX1_forecast 74 = .ok (.aload_n 0, 1) := by decide +kernel
theorem dX1_forecast_75 : decode cX1_forecast 75 = .ok (.getfield 12, 3) := by decide +kernel
theorem dX1_forecast_78 : decode cX1_forecast 78 = .ok (.invokevirtual 39, 3) := by decide +kernel
theorem dX1_forecast_8 : decode cX1_forecast 8 = .ok (.aload_n 0, 1) := by decide +kernel
theorem dX1_forecast_81 : decode cX1_forecast 81 = .ok (.iload 5, 2) := by decide +kernel
theorem dX1_forecast_83 : decode cX1_forecast 83 = .ok (.invokevirtual 43, 3) := by decide +kernel
theorem dX1_forecast_86 : decode cX1_forecast 86 = .ok (.iinc 5 1, 3) := by decide +kernel
theorem dX1_forecast_89 : decode cX1_forecast 89 = .ok (.goto (-33), 3) := by decide +kernel
theorem dX1_forecast_9 : decode cX1_forecast 9 = .ok (.getfield 12, 3) := by decide +kernel
theorem dX1_forecast_92 : decode cX1_forecast 92 = .ok (.return_, 1) := by decide +kernel
def vX1_forecast : List Cond := .code yX1_forecast cX1_forecast 6 none :: ([.fieldLink RX1 12 "HookPier$Days" "ahead" "LHookPier$Now;", .methodLink RX1 29 yX4_become, .instanceMethod yX4_become, .selects RX4 yX4_become yX4_become, .initialized RX4, .code yX4_become cX4_become 2 none, .fieldLink RX4 9 "HookPier$Now" "today" "I", .fieldLink RX4 15 "HookPier$Now" "seedNow" "I", .fieldLink RX4 18 "HookPier$Now" "soldFor" "I", .fieldLink RX4 21 "HookPier$Now" "stage" "[I", .methodLink RX4 34 arraycopyName, .native arraycopyName, .static arraycopyName, .initialized "java/lang/System", .fieldLink RX4 25 "HookPier$Now" "landedOn" "[I", .fieldLink RX4 28 "HookPier$Now" "landedBy" "[I", .methodLink RX4 40 yX4_letDownAs, .instanceMethod yX4_letDownAs, .selects RX4 yX4_letDownAs yX4_letDownAs, .code yX4_letDownAs cX4_letDownAs 2 none, .fieldLink RX4 31 "HookPier$Now" "line" "[I", .fieldLink RX1 33 "HookPier$Now" "seedNow" "I", .fieldLink RX1 18 "HookPier$Days" "landedMany" "I", .fieldLink RX1 22 "HookPier$Days" "crabTakes" "I", .fieldLink RX1 25 "HookPier$Days" "landedInDay" "[I", .methodLink RX1 36 yX4_letDownAs, .methodLink RX1 39 yX1_pass, .instanceMethod yX1_pass, .selects RX1 yX1_pass yX1_pass, .initialized RX1, .code yX1_pass cX1_pass 7 (some .int), .fieldLink RX1 53 "HookPier$Now" "today" "I", .methodLink RX1 56 yX6_isClose, .instanceMethod yX6_isClose, .selects RX6 yX6_isClose yX6_isClose, .initialized RX6, .code yX6_isClose cX6_isClose 2 (some .boolean), .fieldLink RX6 18 "HookPier$Plan" "closeFrom" "I", .fieldLink RX6 21 "HookPier$Plan" "closeTo" "I", .code yX10_within cX10_within 3 (some .boolean), .initialized RX10, .static yX10_within, .methodLink RX1 62 yX1_untangled, .static yX1_untangled, .code yX1_untangled cX1_untangled 4 (some .int), .fieldLink RX1 65 "HookPier$Plan" "askers" "I", .fieldLink RX1 68 "HookPier$Now" "line" "[I", .code yX10_spotOf cX10_spotOf 1 (some .int), .static yX10_spotOf, .methodLink RX1 82 yX4_isTangled, .instanceMethod yX4_isTangled, .selects RX4 yX4_isTangled yX4_isTangled, .code yX4_isTangled cX4_isTangled 5 (some .boolean), .fieldLink RX4 44 "HookPier$Plan" "askers" "I", .methodLink RX4 53 yX6_isTangle, .instanceMethod yX6_isTangle, .selects RX6 yX6_isTangle yX6_isTangle, .code yX6_isTangle cX6_isTangle 5 (some .boolean), .methodLink RX6 89 Lib.Math.abs.name, .static Lib.Math.abs.name, .initialized "java/lang/Math", .code Lib.Math.abs.name Lib.Math.abs.code 1 (some .int), .fieldLink RX6 39 "HookPier$Plan" "reach" "[I", .methodLink RX1 71 yX1_taker, .static yX1_taker, .code yX1_taker cX1_taker 4 (some .int), .fieldLink RX1 92 "HookPier$Plan" "answers" "I", .fieldLink RX1 95 "HookPier$Now" "stage" "[I", .methodLink RX1 98 yX4_draw, .instanceMethod yX4_draw, .selects RX4 yX4_draw yX4_draw, .code yX4_draw cX4_draw 1 (some .int), .constant RX4 57 (65537), .methodLink RX1 102 yX6_wishFor, .instanceMethod yX6_wishFor, .selects RX6 yX6_wishFor yX6_wishFor, .code yX6_wishFor cX6_wishFor 3 (some .int), .fieldLink RX6 52 "HookPier$Plan" "hunger" "[I", .methodLink RX6 94 yX6_wishBy, .instanceMethod yX6_wishBy, .selects RX6 yX6_wishBy yX6_wishBy, .code yX6_wishBy cX6_wishBy 5 (some .int), .fieldLink RX6 46 "HookPier$Plan" "at" "[I", .fieldLink RX6 43 "HookPier$Plan" "kind" "[I", .fieldLink RX6 55 "HookPier$Plan" "likes" "[I", .code yX10_baitOf cX10_baitOf 1 (some .int), .static yX10_baitOf, .methodLink RX6 98 Lib.Math.min.name, .static Lib.Math.min.name, .code Lib.Math.min.name Lib.Math.min.code 2 (some .int), .methodLink RX6 102 Lib.Math.max.name, .static Lib.Math.max.name, .code Lib.Math.max.name Lib.Math.max.code 2 (some .int), .code yX10_fathomsOf cX10_fathomsOf 1 (some .int), .static yX10_fathomsOf, .fieldLink RX6 49 "HookPier$Plan" "depth" "[I", .methodLink RX1 75 yX1_taken, .instanceMethod yX1_taken, .selects RX1 yX1_taken yX1_taken, .code yX1_taken cX1_taken 5 (some .int), .fieldLink RX1 86 "HookPier$Plan" "kind" "[I", .methodLink RX1 89 yX4_land, .instanceMethod yX4_land, .selects RX4 yX4_land yX4_land, .code yX4_land cX4_land 3 none, .methodLink RX1 43 yX1_note, .instanceMethod yX1_note, .selects RX1 yX1_note yX1_note, .code yX1_note cX1_note 4 none, .methodLink RX1 47 yJ6_bitCount_0f7a4, .static yJ6_bitCount_0f7a4, .initialized RJ6, .code yJ6_bitCount_0f7a4 cJ6_bitCount_0f7a4 1 (some .int), .constant RJ6 265 (1431655765), .constant RJ6 266 (858993459), .constant RJ6 267 (252645135)] ++ wsX10 ++ wsX40 ++ wsX60)
theorem iX1_forecast_X1 : ∀ w ∈ wsX10, w ∈ vX1_forecast := fun _ h => List.mem_cons_of_mem _ (List.mem_append_left _ (List.mem_append_left _ (List.mem_append_right _ h)))
theorem iX1_forecast_X4 : ∀ w ∈ wsX40, w ∈ vX1_forecast := fun _ h => List.mem_cons_of_mem _ (List.mem_append_left _ (List.mem_append_right _ h))
theorem iX1_forecast_X6 : ∀ w ∈ wsX60, w ∈ vX1_forecast := fun _ h => List.mem_cons_of_mem _ (List.mem_append_right _ h)
set_option maxRecDepth 20000 in
theorem gX1_forecast_0 : GoodIn vX1_forecast (wsV RX1 29 RX4 yX4_become vX4_become) := goodIn_app (goodIn_r [.methodLink RX1 29 yX4_become, .instanceMethod yX4_become, .selects RX4 yX4_become yX4_become, .initialized RX4] [2, 3, 4, 5] (by decide +kernel) (by decide +kernel)) (goodIn_ca (goodIn_r (.code yX4_become cX4_become 2 none :: [.fieldLink RX4 9 "HookPier$Now" "today" "I", .fieldLink RX4 15 "HookPier$Now" "seedNow" "I", .fieldLink RX4 18 "HookPier$Now" "soldFor" "I", .fieldLink RX4 21 "HookPier$Now" "stage" "[I", .methodLink RX4 34 arraycopyName, .native arraycopyName, .static arraycopyName, .initialized "java/lang/System", .fieldLink RX4 25 "HookPier$Now" "landedOn" "[I", .fieldLink RX4 28 "HookPier$Now" "landedBy" "[I", .methodLink RX4 40 yX4_letDownAs, .instanceMethod yX4_letDownAs, .selects RX4 yX4_letDownAs yX4_letDownAs, .initialized RX4, .code yX4_letDownAs cX4_letDownAs 2 none, .fieldLink RX4 31 "HookPier$Now" "line" "[I"]) [6, 7, 8, 9, 10, 11, 12, 13, 14, 15, 16, 17, 18, 19, 5, 20, 21] (by decide +kernel) (by decide +kernel) : GoodIn vX1_forecast (.code yX4_become cX4_become 2 none :: [.fieldLink RX4 9 "HookPier$Now" "today" "I", .fieldLink RX4 15 "HookPier$Now" "seedNow" "I", .fieldLink RX4 18 "HookPier$Now" "soldFor" "I", .fieldLink RX4 21 "HookPier$Now" "stage" "[I", .methodLink RX4 34 arraycopyName, .native arraycopyName, .static arraycopyName, .initialized "java/lang/System", .fieldLink RX4 25 "HookPier$Now" "landedOn" "[I", .fieldLink RX4 28 "HookPier$Now" "landedBy" "[I", .methodLink RX4 40 yX4_letDownAs, .instanceMethod yX4_letDownAs, .selects RX4 yX4_letDownAs yX4_letDownAs, .initialized RX4, .code yX4_letDownAs cX4_letDownAs 2 none, .fieldLink RX4 31 "HookPier$Now" "line" "[I"])) (goodIn_sub iX1_forecast_X4 (by decide +kernel)))
set_option maxRecDepth 20000 in
theorem gX1_forecast_1 : GoodIn vX1_forecast (wsV RX1 36 RX4 yX4_letDownAs vX4_letDownAs) := goodIn_app (goodIn_r [.methodLink RX1 36 yX4_letDownAs, .instanceMethod yX4_letDownAs, .selects RX4 yX4_letDownAs yX4_letDownAs, .initialized RX4] [26, 18, 19, 5] (by decide +kernel) (by decide +kernel)) (goodIn_ca (goodIn_r (.code yX4_letDownAs cX4_letDownAs 2 none :: [.fieldLink RX4 31 "HookPier$Now" "line" "[I", .methodLink RX4 34 arraycopyName, .native arraycopyName, .static arraycopyName, .initialized "java/lang/System"]) [20, 21, 11, 12, 13, 14] (by decide +kernel) (by decide +kernel) : GoodIn vX1_forecast (.code yX4_letDownAs cX4_letDownAs 2 none :: [.fieldLink RX4 31 "HookPier$Now" "line" "[I", .methodLink RX4 34 arraycopyName, .native arraycopyName, .static arraycopyName, .initialized "java/lang/System"])) (goodIn_sub iX1_forecast_X4 (by decide +kernel)))
set_option maxRecDepth 20000 in
theorem gX1_forecast_2 : GoodIn vX1_forecast (wsV RX1 39 RX1 yX1_pass vX1_pass) := goodIn_app (goodIn_r [.methodLink RX1 39 yX1_pass, .instanceMethod yX1_pass, .selects RX1 yX1_pass yX1_pass, .initialized RX1] [27, 28, 29, 30] (by decide +kernel) (by decide +kernel)) (goodIn_ca (goodIn_ca (goodIn_ca (goodIn_r (.code yX1_pass cX1_pass 7 (some .int) :: [.fieldLink RX1 53 "HookPier$Now" "today" "I", .methodLink RX1 56 yX6_isClose, .instanceMethod yX6_isClose, .selects RX6 yX6_isClose yX6_isClose, .initialized RX6, .code yX6_isClose cX6_isClose 2 (some .boolean), .fieldLink RX6 18 "HookPier$Plan" "closeFrom" "I", .fieldLink RX6 21 "HookPier$Plan" "closeTo" "I", .code yX10_within cX10_within 3 (some .boolean), .initialized RX10, .static yX10_within, .methodLink RX1 62 yX1_untangled, .static yX1_untangled, .initialized RX1, .code yX1_untangled cX1_untangled 4 (some .int), .fieldLink RX1 65 "HookPier$Plan" "askers" "I", .fieldLink RX1 68 "HookPier$Now" "line" "[I", .code yX10_spotOf cX10_spotOf 1 (some .int), .static yX10_spotOf, .methodLink RX1 82 yX4_isTangled, .instanceMethod yX4_isTangled, .selects RX4 yX4_isTangled yX4_isTangled, .initialized RX4, .code yX4_isTangled cX4_isTangled 5 (some .boolean), .fieldLink RX4 44 "HookPier$Plan" "askers" "I", .fieldLink RX4 31 "HookPier$Now" "line" "[I", .methodLink RX4 53 yX6_isTangle, .instanceMethod yX6_isTangle, .selects RX6 yX6_isTangle yX6_isTangle, .code yX6_isTangle cX6_isTangle 5 (some .boolean), .methodLink RX6 89 Lib.Math.abs.name, .static Lib.Math.abs.name, .initialized "java/lang/Math", .code Lib.Math.abs.name Lib.Math.abs.code 1 (some .int), .fieldLink RX6 39 "HookPier$Plan" "reach" "[I", .methodLink RX1 71 yX1_taker, .static yX1_taker, .code yX1_taker cX1_taker 4 (some .int), .fieldLink RX1 92 "HookPier$Plan" "answers" "I", .fieldLink RX1 95 "HookPier$Now" "stage" "[I", .methodLink RX1 98 yX4_draw, .instanceMethod yX4_draw, .selects RX4 yX4_draw yX4_draw, .code yX4_draw cX4_draw 1 (some .int), .fieldLink RX4 15 "HookPier$Now" "seedNow" "I", .constant RX4 57 (65537), .methodLink RX1 102 yX6_wishFor, .instanceMethod yX6_wishFor, .selects RX6 yX6_wishFor yX6_wishFor, .code yX6_wishFor cX6_wishFor 3 (some .int), .fieldLink RX6 52 "HookPier$Plan" "hunger" "[I", .methodLink RX6 94 yX6_wishBy, .instanceMethod yX6_wishBy, .selects RX6 yX6_wishBy yX6_wishBy, .code yX6_wishBy cX6_wishBy 5 (some .int), .fieldLink RX6 46 "HookPier$Plan" "at" "[I", .fieldLink RX6 43 "HookPier$Plan" "kind" "[I", .fieldLink RX6 55 "HookPier$Plan" "likes" "[I", .code yX10_baitOf cX10_baitOf 1 (some .int), .static yX10_baitOf, .methodLink RX6 98 Lib.Math.min.name, .static Lib.Math.min.name, .code Lib.Math.min.name Lib.Math.min.code 2 (some .int), .methodLink RX6 102 Lib.Math.max.name, .static Lib.Math.max.name, .code Lib.Math.max.name Lib.Math.max.code 2 (some .int), .code yX10_fathomsOf cX10_fathomsOf 1 (some .int), .static yX10_fathomsOf, .fieldLink RX6 49 "HookPier$Plan" "depth" "[I", .methodLink RX1 75 yX1_taken, .instanceMethod yX1_taken, .selects RX1 yX1_taken yX1_taken, .code yX1_taken cX1_taken 5 (some .int), .fieldLink RX1 86 "HookPier$Plan" "kind" "[I", .methodLink RX1 89 yX4_land, .instanceMethod yX4_land, .selects RX4 yX4_land yX4_land, .code yX4_land cX4_land 3 none, .fieldLink RX4 21 "HookPier$Now" "stage" "[I", .fieldLink RX4 25 "HookPier$Now" "landedOn" "[I", .fieldLink RX4 9 "HookPier$Now" "today" "I", .fieldLink RX4 28 "HookPier$Now" "landedBy" "[I", .fieldLink RX1 22 "HookPier$Days" "crabTakes" "I"]) [31, 32, 33, 34, 35, 36, 37, 38, 39, 40, 41, 42, 43, 44, 30, 45, 46, 47, 48, 49, 50, 51, 52, 5, 53, 54, 21, 55, 56, 57, 58, 59, 60, 61, 62, 63, 64, 65, 66, 67, 68, 69, 70, 71, 72, 8, 73, 74, 75, 76, 77, 78, 79, 80, 81, 82, 83, 84, 85, 86, 87, 88, 89, 90, 91, 92, 93, 94, 95, 96, 97, 98, 99, 100, 101, 102, 103, 104, 105, 10, 15, 7, 16, 24] (by decide +kernel) (by decide +kernel) : GoodIn vX1_forecast (.code yX1_pass cX1_pass 7 (some .int) :: [.fieldLink RX1 53 "HookPier$Now" "today" "I", .methodLink RX1 56 yX6_isClose, .instanceMethod yX6_isClose, .selects RX6 yX6_isClose yX6_isClose, .initialized RX6, .code yX6_isClose cX6_isClose 2 (some .boolean), .fieldLink RX6 18 "HookPier$Plan" "closeFrom" "I", .fieldLink RX6 21 "HookPier$Plan" "closeTo" "I", .code yX10_within cX10_within 3 (some .boolean), .initialized RX10, .static yX10_within, .methodLink RX1 62 yX1_untangled, .static yX1_untangled, .initialized RX1, .code yX1_untangled cX1_untangled 4 (some .int), .fieldLink RX1 65 "HookPier$Plan" "askers" "I", .fieldLink RX1 68 "HookPier$Now" "line" "[I", .code yX10_spotOf cX10_spotOf 1 (some .int), .static yX10_spotOf, .methodLink RX1 82 yX4_isTangled, .instanceMethod yX4_isTangled, .selects RX4 yX4_isTangled yX4_isTangled, .initialized RX4, .code yX4_isTangled cX4_isTangled 5 (some .boolean), .fieldLink RX4 44 "HookPier$Plan" "askers" "I", .fieldLink RX4 31 "HookPier$Now" "line" "[I", .methodLink RX4 53 yX6_isTangle, .instanceMethod yX6_isTangle, .selects RX6 yX6_isTangle yX6_isTangle, .code yX6_isTangle cX6_isTangle 5 (some .boolean), .methodLink RX6 89 Lib.Math.abs.name, .static Lib.Math.abs.name, .initialized "java/lang/Math", .code Lib.Math.abs.name Lib.Math.abs.code 1 (some .int), .fieldLink RX6 39 "HookPier$Plan" "reach" "[I", .methodLink RX1 71 yX1_taker, .static yX1_taker, .code yX1_taker cX1_taker 4 (some .int), .fieldLink RX1 92 "HookPier$Plan" "answers" "I", .fieldLink RX1 95 "HookPier$Now" "stage" "[I", .methodLink RX1 98 yX4_draw, .instanceMethod yX4_draw, .selects RX4 yX4_draw yX4_draw, .code yX4_draw cX4_draw 1 (some .int), .fieldLink RX4 15 "HookPier$Now" "seedNow" "I", .constant RX4 57 (65537), .methodLink RX1 102 yX6_wishFor, .instanceMethod yX6_wishFor, .selects RX6 yX6_wishFor yX6_wishFor, .code yX6_wishFor cX6_wishFor 3 (some .int), .fieldLink RX6 52 "HookPier$Plan" "hunger" "[I", .methodLink RX6 94 yX6_wishBy, .instanceMethod yX6_wishBy, .selects RX6 yX6_wishBy yX6_wishBy, .code yX6_wishBy cX6_wishBy 5 (some .int), .fieldLink RX6 46 "HookPier$Plan" "at" "[I", .fieldLink RX6 43 "HookPier$Plan" "kind" "[I", .fieldLink RX6 55 "HookPier$Plan" "likes" "[I", .code yX10_baitOf cX10_baitOf 1 (some .int), .static yX10_baitOf, .methodLink RX6 98 Lib.Math.min.name, .static Lib.Math.min.name, .code Lib.Math.min.name Lib.Math.min.code 2 (some .int), .methodLink RX6 102 Lib.Math.max.name, .static Lib.Math.max.name, .code Lib.Math.max.name Lib.Math.max.code 2 (some .int), .code yX10_fathomsOf cX10_fathomsOf 1 (some .int), .static yX10_fathomsOf, .fieldLink RX6 49 "HookPier$Plan" "depth" "[I", .methodLink RX1 75 yX1_taken, .instanceMethod yX1_taken, .selects RX1 yX1_taken yX1_taken, .code yX1_taken cX1_taken 5 (some .int), .fieldLink RX1 86 "HookPier$Plan" "kind" "[I", .methodLink RX1 89 yX4_land, .instanceMethod yX4_land, .selects RX4 yX4_land yX4_land, .code yX4_land cX4_land 3 none, .fieldLink RX4 21 "HookPier$Now" "stage" "[I", .fieldLink RX4 25 "HookPier$Now" "landedOn" "[I", .fieldLink RX4 9 "HookPier$Now" "today" "I", .fieldLink RX4 28 "HookPier$Now" "landedBy" "[I", .fieldLink RX1 22 "HookPier$Days" "crabTakes" "I"])) (goodIn_sub iX1_forecast_X4 (by decide +kernel))) (goodIn_sub iX1_forecast_X6 (by decide +kernel))) (goodIn_sub iX1_forecast_X1 (by decide +kernel)))
set_option maxRecDepth 20000 in
theorem gX1_forecast_3 : GoodIn vX1_forecast (wsV RX1 43 RX1 yX1_note vX1_note) := goodIn_app (goodIn_r [.methodLink RX1 43 yX1_note, .instanceMethod yX1_note, .selects RX1 yX1_note yX1_note, .initialized RX1] [106, 107, 108, 30] (by decide +kernel) (by decide +kernel)) (goodIn_ca (goodIn_r (.code yX1_note cX1_note 4 none :: [.fieldLink RX1 18 "HookPier$Days" "landedMany" "I", .methodLink RX1 47 yJ6_bitCount_0f7a4, .static yJ6_bitCount_0f7a4, .initialized RJ6, .code yJ6_bitCount_0f7a4 cJ6_bitCount_0f7a4 1 (some .int), .constant RJ6 265 (1431655765), .constant RJ6 266 (858993459), .constant RJ6 267 (252645135), .fieldLink RX1 25 "HookPier$Days" "landedInDay" "[I"]) [109, 23, 110, 111, 112, 113, 114, 115, 116, 25] (by decide +kernel) (by decide +kernel) : GoodIn vX1_forecast (.code yX1_note cX1_note 4 none :: [.fieldLink RX1 18 "HookPier$Days" "landedMany" "I", .methodLink RX1 47 yJ6_bitCount_0f7a4, .static yJ6_bitCount_0f7a4, .initialized RJ6, .code yJ6_bitCount_0f7a4 cJ6_bitCount_0f7a4 1 (some .int), .constant RJ6 265 (1431655765), .constant RJ6 266 (858993459), .constant RJ6 267 (252645135), .fieldLink RX1 25 "HookPier$Days" "landedInDay" "[I"])) (goodIn_sub iX1_forecast_X1 (by decide +kernel)))
set_option maxHeartbeats 2000000 in
set_option maxRecDepth 100000 in
theorem kX1_forecast (l : Launch) (dC : Nat → ClassId) (dI : Nat → Nat → Nat) (a0 : Nat) (a1 : Nat) (a2 : Nat) (k3 : Int32) (k4 : Int32) (a5 : Nat) (a6 : Nat) (a7 : Nat) (a8 : Nat) (a9 : Nat) (a10 : Nat) (a11 : Nat) (a12 : Nat) (a13 : Nat) (a14 : Nat) (a15 : Nat) (a16 : Nat) (a17 : Nat) (a18 : Nat) (a19 : Nat) (a20 : Nat) (k21 : Int32) (k22 : Int32) (g23 : Value) (g24 : Value) (k25 : Int32) (k26 : Int32) (g27 : Value) (k28 : Int32) (k29 : Int32) (g30 : Value) (g31 : Value) (g32 : Value) (g33 : Value) (g34 : Value) (k35 : Int32) (k36 : Int32) (k37 : Int32) (k38 : Int32) (k39 : Int32) (g40 : Value) (cB41 : ClassId) (f42 : Nat → Int32) (cB43 : ClassId) (f44 : Nat → Int32) (cB45 : ClassId) (f46 : Nat → Int32) (cB47 : ClassId) (f48 : Nat → Int32) (cB49 : ClassId) (f50 : Nat → Int32) (cB51 : ClassId) (f52 : Nat → Int32) (cB53 : ClassId) (f54 : Nat → Int32) (cB55 : ClassId) (f56 : Nat → Int32) (cB57 : ClassId) (f58 : Nat → Int32) (cB59 : ClassId) (f60 : Nat → Int32) (cB61 : ClassId) (f62 : Nat → Int32) (cB63 : ClassId) (f64 : Nat → Int32) (cB65 : ClassId) (f66 : Nat → Int32) (cB67 : ClassId) (f68 : Nat → Int32) (cB69 : ClassId) (f70 : Nat → Int32) (hk4 : (0 ≤ k4.toInt ∧ k4.toInt ≤ 60)) (hk28 : (0 ≤ k28.toInt ∧ k28.toInt ≤ 5)) (hk29 : (0 ≤ k29.toInt ∧ k29.toInt ≤ 6)) (sz : Nat) : Met l yX1_forecast vX1_forecast ({ frames := 5, cells := 0, slots := 0, locals := 118 }) (PC (dC, dI) [.ref a0, .ref a1, .ref a2, .int k3, .int k4] sz [(a0, .inr (1, [.ref a5, .int k21, .int k22, .ref a6])), (a1, .inr (4, [g23, g24, .int k25, .int k26, g27, .int k28, .int k29, g30, g31, .ref a7, .ref a8, .ref a9, .ref a10, .ref a11, .ref a12, g32, g33, g34])), (a2, .inr (3, [.int k35, .int k36, .int k37, .ref a13, .ref a14, .ref a15, .ref a16])), (a5, .inr (3, [.int k38, .int k39, g40, .ref a17, .ref a18, .ref a19, .ref a20])), (a6, .inl (cB41, 6, .inl f42)), (a7, .inl (cB43, 5, .inl f44)), (a8, .inl (cB45, 6, .inl f46)), (a9, .inl (cB47, 6, .inl f48)), (a10, .inl (cB49, 6, .inl f50)), (a11, .inl (cB51, 6, .inl f52)), (a12, .inl (cB53, 6, .inl f54)), (a13, .inl (cB55, 6, .inl f56)), (a14, .inl (cB57, 6, .inl f58)), (a15, .inl (cB59, 6, .inl f60)), (a16, .inl (cB61, 5, .inl f62)), (a17, .inl (cB63, 6, .inl f64)), (a18, .inl (cB65, 6, .inl f66)), (a19, .inl (cB67, 6, .inl f68)), (a20, .inl (cB69, 5, .inl f70))] [(cB41, .int), (cB43, .int), (cB45, .int), (cB47, .int), (cB49, .int), (cB51, .int), (cB53, .int), (cB55, .int), (cB57, .int), (cB59, .int), (cB61, .int), (cB63, .int), (cB65, .int), (cB67, .int), (cB69, .int)]) (va_Qv (S := Int32 × Int32 × Int32 × Int32 × Int32 × (Nat → Int32) × (Nat → Int32) × (Nat → Int32) × (Nat → Int32) × (Nat → Int32)) (fun u => True) (fun u t => BC (dC, dI) (va_A [(a0, .inr (1, [.ref a5, .int k21, .int k22, .ref a6])), (a1, .inr (4, [g23, g24, .int k25, .int k26, g27, .int k28, .int k29, g30, g31, .ref a7, .ref a8, .ref a9, .ref a10, .ref a11, .ref a12, g32, g33, g34])), (a2, .inr (3, [.int k35, .int k36, .int k37, .ref a13, .ref a14, .ref a15, .ref a16])), (a5, .inr (3, [.int k38, .int k39, g40, .ref a17, .ref a18, .ref a19, .ref a20])), (a6, .inl (cB41, 6, .inl f42)), (a7, .inl (cB43, 5, .inl f44)), (a8, .inl (cB45, 6, .inl f46)), (a9, .inl (cB47, 6, .inl f48)), (a10, .inl (cB49, 6, .inl f50)), (a11, .inl (cB51, 6, .inl f52)), (a12, .inl (cB53, 6, .inl f54)), (a13, .inl (cB55, 6, .inl f56)), (a14, .inl (cB57, 6, .inl f58)), (a15, .inl (cB59, 6, .inl f60)), (a16, .inl (cB61, 5, .inl f62)), (a17, .inl (cB63, 6, .inl f64)), (a18, .inl (cB65, 6, .inl f66)), (a19, .inl (cB67, 6, .inl f68)), (a20, .inl (cB69, 5, .inl f70))] sz) [(a0, .inr (1, [.ref a5, .int (u.1), .int (u.2.1), .ref a6])), (a1, .inr (4, [g23, g24, .int k25, .int k26, g27, .int k28, .int k29, g30, g31, .ref a7, .ref a8, .ref a9, .ref a10, .ref a11, .ref a12, g32, g33, g34])), (a2, .inr (3, [.int k35, .int k36, .int k37, .ref a13, .ref a14, .ref a15, .ref a16])), (a5, .inr (3, [.int (u.2.2.1), .int (u.2.2.2.1), .int (u.2.2.2.2.1), .ref a17, .ref a18, .ref a19, .ref a20])), (a6, .inl (cB41, 6, .inl (u.2.2.2.2.2.1))), (a7, .inl (cB43, 5, .inl f44)), (a8, .inl (cB45, 6, .inl f46)), (a9, .inl (cB47, 6, .inl f48)), (a10, .inl (cB49, 6, .inl f50)), (a11, .inl (cB51, 6, .inl f52)), (a12, .inl (cB53, 6, .inl f54)), (a13, .inl (cB55, 6, .inl f56)), (a14, .inl (cB57, 6, .inl f58)), (a15, .inl (cB59, 6, .inl f60)), (a16, .inl (cB61, 5, .inl f62)), (a17, .inl (cB63, 6, .inl (u.2.2.2.2.2.2.1))), (a18, .inl (cB65, 6, .inl (u.2.2.2.2.2.2.2.1))), (a19, .inl (cB67, 6, .inl (u.2.2.2.2.2.2.2.2.1))), (a20, .inl (cB69, 5, .inl (u.2.2.2.2.2.2.2.2.2)))] [] t) (va_A [(a0, .inr (1, [.ref a5, .int k21, .int k22, .ref a6])), (a1, .inr (4, [g23, g24, .int k25, .int k26, g27, .int k28, .int k29, g30, g31, .ref a7, .ref a8, .ref a9, .ref a10, .ref a11, .ref a12, g32, g33, g34])), (a2, .inr (3, [.int k35, .int k36, .int k37, .ref a13, .ref a14, .ref a15, .ref a16])), (a5, .inr (3, [.int k38, .int k39, g40, .ref a17, .ref a18, .ref a19, .ref a20])), (a6, .inl (cB41, 6, .inl f42)), (a7, .inl (cB43, 5, .inl f44)), (a8, .inl (cB45, 6, .inl f46)), (a9, .inl (cB47, 6, .inl f48)), (a10, .inl (cB49, 6, .inl f50)), (a11, .inl (cB51, 6, .inl f52)), (a12, .inl (cB53, 6, .inl f54)), (a13, .inl (cB55, 6, .inl f56)), (a14, .inl (cB57, 6, .inl f58)), (a15, .inl (cB59, 6, .inl f60)), (a16, .inl (cB61, 5, .inl f62)), (a17, .inl (cB63, 6, .inl f64)), (a18, .inl (cB65, 6, .inl f66)), (a19, .inl (cB67, 6, .inl f68)), (a20, .inl (cB69, 5, .inl f70))] sz)) 0 0 (va_A [(a0, .inr (1, [.ref a5, .int k21, .int k22, .ref a6])), (a1, .inr (4, [g23, g24, .int k25, .int k26, g27, .int k28, .int k29, g30, g31, .ref a7, .ref a8, .ref a9, .ref a10, .ref a11, .ref a12, g32, g33, g34])), (a2, .inr (3, [.int k35, .int k36, .int k37, .ref a13, .ref a14, .ref a15, .ref a16])), (a5, .inr (3, [.int k38, .int k39, g40, .ref a17, .ref a18, .ref a19, .ref a20])), (a6, .inl (cB41, 6, .inl f42)), (a7, .inl (cB43, 5, .inl f44)), (a8, .inl (cB45, 6, .inl f46)), (a9, .inl (cB47, 6, .inl f48)), (a10, .inl (cB49, 6, .inl f50)), (a11, .inl (cB51, 6, .inl f52)), (a12, .inl (cB53, 6, .inl f54)), (a13, .inl (cB55, 6, .inl f56)), (a14, .inl (cB57, 6, .inl f58)), (a15, .inl (cB59, 6, .inl f60)), (a16, .inl (cB61, 5, .inl f62)), (a17, .inl (cB63, 6, .inl f64)), (a18, .inl (cB65, 6, .inl f66)), (a19, .inl (cB67, 6, .inl f68)), (a20, .inl (cB69, 5, .inl f70))] sz) := by
  refine Met.ofW (cc := cX1_forecast) (maxL := 6) (ret := none) (by decide) rfl ?_
  intro p e s m args below meth c s₁ B hml hv
  obtain ⟨rfl, hsz, hP, hK, hD0, hN⟩ := hv
  have hx := B.exec
  have hb := B.bytes
  have hr := B.returns
  have hts := atoms_spec (ws := vX1_forecast) B.pre
  have hown : s.vm.findClass RX1 = some m.cls := findClass_of_methodNamed B.named
  have hlocks := B.notSynchronized
  subst hsz
  have hD := hD0.self (sz := s.heap.size)
  generalize hAe : va_A [(a0, .inr (1, [.ref a5, .int k21, .int k22, .ref a6])), (a1, .inr (4, [g23, g24, .int k25, .int k26, g27, .int k28, .int k29, g30, g31, .ref a7, .ref a8, .ref a9, .ref a10, .ref a11, .ref a12, g32, g33, g34])), (a2, .inr (3, [.int k35, .int k36, .int k37, .ref a13, .ref a14, .ref a15, .ref a16])), (a5, .inr (3, [.int k38, .int k39, g40, .ref a17, .ref a18, .ref a19, .ref a20])), (a6, .inl (cB41, 6, .inl f42)), (a7, .inl (cB43, 5, .inl f44)), (a8, .inl (cB45, 6, .inl f46)), (a9, .inl (cB47, 6, .inl f48)), (a10, .inl (cB49, 6, .inl f50)), (a11, .inl (cB51, 6, .inl f52)), (a12, .inl (cB53, 6, .inl f54)), (a13, .inl (cB55, 6, .inl f56)), (a14, .inl (cB57, 6, .inl f58)), (a15, .inl (cB59, 6, .inl f60)), (a16, .inl (cB61, 5, .inl f62)), (a17, .inl (cB63, 6, .inl f64)), (a18, .inl (cB65, 6, .inl f66)), (a19, .inl (cB67, 6, .inl f68)), (a20, .inl (cB69, 5, .inl f70))] s.heap.size = A at hD ⊢
  have hA : ∀ q : Nat, s.heap.size ≤ q → A q := fun q h => by rw [← hAe]; exact Or.inr h
  have hS : va_S A s.heap s.heap [] := va_S.rf
  have hP : va_P (dC, dI) vwCl [(a0, .inr (1, [.ref a5, .int k21, .int k22, .ref a6])), (a1, .inr (4, [g23, g24, .int k25, .int k26, g27, .int k28, .int k29, g30, g31, .ref a7, .ref a8, .ref a9, .ref a10, .ref a11, .ref a12, g32, g33, g34])), (a2, .inr (3, [.int k35, .int k36, .int k37, .ref a13, .ref a14, .ref a15, .ref a16])), (a5, .inr (3, [.int k38, .int k39, g40, .ref a17, .ref a18, .ref a19, .ref a20])), (a6, .inl (cB41, 6, .inl f42)), (a7, .inl (cB43, 5, .inl f44)), (a8, .inl (cB45, 6, .inl f46)), (a9, .inl (cB47, 6, .inl f48)), (a10, .inl (cB49, 6, .inl f50)), (a11, .inl (cB51, 6, .inl f52)), (a12, .inl (cB53, 6, .inl f54)), (a13, .inl (cB55, 6, .inl f56)), (a14, .inl (cB57, 6, .inl f58)), (a15, .inl (cB59, 6, .inl f60)), (a16, .inl (cB61, 5, .inl f62)), (a17, .inl (cB63, 6, .inl f64)), (a18, .inl (cB65, 6, .inl f66)), (a19, .inl (cB67, 6, .inl f68)), (a20, .inl (cB69, 5, .inl f70))] s.heap := hP
  have hl := lv_entry ([.ref a0, .ref a1, .ref a2, .int k3, .int k4]) (n := 6) (Nat.le_of_ble_eq_true rfl)
  rw [lg_entry_eq]
  generalize (lg_sl ([.ref a0, .ref a1, .ref a2, .int k3, .int k4]) ++ List.replicate (6 - (lg_sl ([.ref a0, .ref a1, .ref a2, .int k3, .int k4])).length) Slot.unset).toArray = ls at hl ⊢
  have hl : lv_has ls 6 [(0, .ref a0), (1, .ref a1), (2, .ref a2), (3, .int k3), (4, .int k4)] := hl
  refine lv_aload_n hx hb dX1_forecast_0 rfl (lv_at hl 0 rfl) ?_
  refine va_get (D := (dC, dI)) (ci := 1) (v := .ref a5) (C := RX1) (T := TX1) (N := 4) hx hb hts iX1_forecast_X1 hown hK hP 0 rfl rfl 0 (by decide) (hts (.fieldLink RX1 12 "HookPier$Days" "ahead" "LHookPier$Now;") (List.mem_of_getElem? (i := 1) rfl)) (fun _ h9 => h9) rfl dX1_forecast_1 ?_
  refine lv_aload_n hx hb dX1_forecast_4 rfl (lv_at hl 2 rfl) ?_
  refine cl_v (wc := [(a5, .inr (3, [.int k38, .int k39, g40, .ref a17, .ref a18, .ref a19, .ref a20])), (a2, .inr (3, [.int k35, .int k36, .int k37, .ref a13, .ref a14, .ref a15, .ref a16])), (a17, .inl (cB63, 6, .inl f64)), (a18, .inl (cB65, 6, .inl f66)), (a19, .inl (cB67, 6, .inl f68)), (a20, .inl (cB69, 5, .inl f70)), (a13, .inl (cB55, 6, .inl f56)), (a14, .inl (cB57, 6, .inl f58)), (a15, .inl (cB59, 6, .inl f60)), (a16, .inl (cB61, 5, .inl f62))]) (wr := [(a0, .inr (1, [.ref a5, .int k21, .int k22, .ref a6])), (a1, .inr (4, [g23, g24, .int k25, .int k26, g27, .int k28, .int k29, g30, g31, .ref a7, .ref a8, .ref a9, .ref a10, .ref a11, .ref a12, g32, g33, g34])), (a6, .inl (cB41, 6, .inl f42)), (a7, .inl (cB43, 5, .inl f44)), (a8, .inl (cB45, 6, .inl f46)), (a9, .inl (cB47, 6, .inl f48)), (a10, .inl (cB49, 6, .inl f50)), (a11, .inl (cB51, 6, .inl f52)), (a12, .inl (cB53, 6, .inl f54))]) (va_runV (As := [.ref a2]) (rest := []) ⟨hx, hb, hml, hown, hts⟩ (kX4_become l dC dI a5 a2 a17 a18 a19 a20 a13 a14 a15 a16 (.int k38) (.int k39) (g40) k35 k36 k37 cB63 f64 cB65 f66 cB67 f68 cB69 f70 cB55 f56 cB57 f58 cB59 f60 cB61 f62  s.heap.size) (cwV 1 hts gX1_forecast_0 rfl rfl rfl (by decide +kernel) ⟨Nat.le_of_ble_eq_true rfl, Nat.le_of_ble_eq_true rfl⟩) (PV (hP.sub (ws' := [(a5, .inr (3, [.int k38, .int k39, g40, .ref a17, .ref a18, .ref a19, .ref a20])), (a2, .inr (3, [.int k35, .int k36, .int k37, .ref a13, .ref a14, .ref a15, .ref a16])), (a17, .inl (cB63, 6, .inl f64)), (a18, .inl (cB65, 6, .inl f66)), (a19, .inl (cB67, 6, .inl f68)), (a20, .inl (cB69, 5, .inl f70)), (a13, .inl (cB55, 6, .inl f56)), (a14, .inl (cB57, 6, .inl f58)), (a15, .inl (cB59, 6, .inl f60)), (a16, .inl (cB61, 5, .inl f62))]) [3, 2, 15, 16, 17, 18, 11, 12, 13, 14] rfl) (hK.sub (tys' := [(cB63, .int), (cB65, .int), (cB67, .int), (cB69, .int), (cB55, .int), (cB57, .int), (cB59, .int), (cB61, .int)]) [11, 12, 13, 14, 7, 8, 9, 10] rfl) (hD.sub (ws' := [(a5, .inr (3, [.int k38, .int k39, g40, .ref a17, .ref a18, .ref a19, .ref a20])), (a2, .inr (3, [.int k35, .int k36, .int k37, .ref a13, .ref a14, .ref a15, .ref a16])), (a17, .inl (cB63, 6, .inl f64)), (a18, .inl (cB65, 6, .inl f66)), (a19, .inl (cB67, 6, .inl f68)), (a20, .inl (cB69, 5, .inl f70)), (a13, .inl (cB55, 6, .inl f56)), (a14, .inl (cB57, 6, .inl f58)), (a15, .inl (cB59, 6, .inl f60)), (a16, .inl (cB61, 5, .inl f62))]) [3, 2, 15, 16, 17, 18, 11, 12, 13, 14] (by decide) rfl) hN 0 rfl rfl) rfl rfl hl.1 rfl (lv_room (Nat.le_of_ble_eq_true rfl)) dX1_forecast_5 ⟨Nat.le_of_ble_eq_true rfl, Nat.le_of_ble_eq_true rfl⟩) hP hD hK hS hA [3, 2, 15, 16, 17, 18, 11, 12, 13, 14] [0, 1, 4, 5, 6, 7, 8, 9, 10] rfl rfl (by decide) (by decide) (fun u H locs hw hP hD hK hS => ?_)
  obtain ⟨z1, z2, z3, f4, f5, f6, f7⟩ := u
  have b8 := hw
  have hP : va_P (dC, dI) vwCl [(a0, .inr (1, [.ref a5, .int k21, .int k22, .ref a6])), (a1, .inr (4, [g23, g24, .int k25, .int k26, g27, .int k28, .int k29, g30, g31, .ref a7, .ref a8, .ref a9, .ref a10, .ref a11, .ref a12, g32, g33, g34])), (a6, .inl (cB41, 6, .inl f42)), (a7, .inl (cB43, 5, .inl f44)), (a8, .inl (cB45, 6, .inl f46)), (a9, .inl (cB47, 6, .inl f48)), (a10, .inl (cB49, 6, .inl f50)), (a11, .inl (cB51, 6, .inl f52)), (a12, .inl (cB53, 6, .inl f54)), (a5, .inr (3, [.int z1, .int z2, .int z3, .ref a17, .ref a18, .ref a19, .ref a20])), (a2, .inr (3, [.int k35, .int k36, .int k37, .ref a13, .ref a14, .ref a15, .ref a16])), (a17, .inl (cB63, 6, .inl f4)), (a18, .inl (cB65, 6, .inl f5)), (a19, .inl (cB67, 6, .inl f6)), (a20, .inl (cB69, 5, .inl f7)), (a13, .inl (cB55, 6, .inl f56)), (a14, .inl (cB57, 6, .inl f58)), (a15, .inl (cB59, 6, .inl f60)), (a16, .inl (cB61, 5, .inl f62))] H := hP
  have hD : va_D A [(a0, .inr (1, [.ref a5, .int k21, .int k22, .ref a6])), (a1, .inr (4, [g23, g24, .int k25, .int k26, g27, .int k28, .int k29, g30, g31, .ref a7, .ref a8, .ref a9, .ref a10, .ref a11, .ref a12, g32, g33, g34])), (a6, .inl (cB41, 6, .inl f42)), (a7, .inl (cB43, 5, .inl f44)), (a8, .inl (cB45, 6, .inl f46)), (a9, .inl (cB47, 6, .inl f48)), (a10, .inl (cB49, 6, .inl f50)), (a11, .inl (cB51, 6, .inl f52)), (a12, .inl (cB53, 6, .inl f54)), (a5, .inr (3, [.int z1, .int z2, .int z3, .ref a17, .ref a18, .ref a19, .ref a20])), (a2, .inr (3, [.int k35, .int k36, .int k37, .ref a13, .ref a14, .ref a15, .ref a16])), (a17, .inl (cB63, 6, .inl f4)), (a18, .inl (cB65, 6, .inl f5)), (a19, .inl (cB67, 6, .inl f6)), (a20, .inl (cB69, 5, .inl f7)), (a13, .inl (cB55, 6, .inl f56)), (a14, .inl (cB57, 6, .inl f58)), (a15, .inl (cB59, 6, .inl f60)), (a16, .inl (cB61, 5, .inl f62))] := hD
  have hK : va_K (dC, dI) vwCl [(cB41, .int), (cB43, .int), (cB45, .int), (cB47, .int), (cB49, .int), (cB51, .int), (cB53, .int), (cB55, .int), (cB57, .int), (cB59, .int), (cB61, .int), (cB63, .int), (cB65, .int), (cB67, .int), (cB69, .int)] s := hK
  refine lv_aload_n hx hb dX1_forecast_8 rfl (lv_at hl 0 rfl) ?_
  refine va_get (D := (dC, dI)) (ci := 1) (v := .ref a5) (C := RX1) (T := TX1) (N := 4) hx hb hts iX1_forecast_X1 hown hK hP 0 rfl rfl 0 (by decide) (hts (.fieldLink RX1 12 "HookPier$Days" "ahead" "LHookPier$Now;") (List.mem_of_getElem? (i := 1) rfl)) (fun _ h9 => h9) rfl dX1_forecast_9 ?_
  refine lv_iload_n hx hb dX1_forecast_12 rfl (lv_at hl 3 rfl) ?_
  refine va_put (D := (dC, dI)) (ci := 3) (v := .int k3) (ty := .int) (C := RX4) (T := TX4) (N := 7) hx hb hts iX1_forecast_X4 tyX4 tyX4_ok nmX4 hown hK hP hD hS 9 rfl rfl 1 (by decide) (hts (.fieldLink RX1 33 "HookPier$Now" "seedNow" "I") (List.mem_of_getElem? (i := 22) rfl)) (fun _ h9 => h9) rfl (by decide +kernel) rfl rfl (Nat.le_of_ble_eq_true rfl) dX1_forecast_13 (fun H locs hP hD hS => ?_)
  have hP : va_P (dC, dI) vwCl [(a0, .inr (1, [.ref a5, .int k21, .int k22, .ref a6])), (a1, .inr (4, [g23, g24, .int k25, .int k26, g27, .int k28, .int k29, g30, g31, .ref a7, .ref a8, .ref a9, .ref a10, .ref a11, .ref a12, g32, g33, g34])), (a6, .inl (cB41, 6, .inl f42)), (a7, .inl (cB43, 5, .inl f44)), (a8, .inl (cB45, 6, .inl f46)), (a9, .inl (cB47, 6, .inl f48)), (a10, .inl (cB49, 6, .inl f50)), (a11, .inl (cB51, 6, .inl f52)), (a12, .inl (cB53, 6, .inl f54)), (a5, .inr (3, [.int z1, .int k3, .int z3, .ref a17, .ref a18, .ref a19, .ref a20])), (a2, .inr (3, [.int k35, .int k36, .int k37, .ref a13, .ref a14, .ref a15, .ref a16])), (a17, .inl (cB63, 6, .inl f4)), (a18, .inl (cB65, 6, .inl f5)), (a19, .inl (cB67, 6, .inl f6)), (a20, .inl (cB69, 5, .inl f7)), (a13, .inl (cB55, 6, .inl f56)), (a14, .inl (cB57, 6, .inl f58)), (a15, .inl (cB59, 6, .inl f60)), (a16, .inl (cB61, 5, .inl f62))] H := hP
  have hD : va_D A [(a0, .inr (1, [.ref a5, .int k21, .int k22, .ref a6])), (a1, .inr (4, [g23, g24, .int k25, .int k26, g27, .int k28, .int k29, g30, g31, .ref a7, .ref a8, .ref a9, .ref a10, .ref a11, .ref a12, g32, g33, g34])), (a6, .inl (cB41, 6, .inl f42)), (a7, .inl (cB43, 5, .inl f44)), (a8, .inl (cB45, 6, .inl f46)), (a9, .inl (cB47, 6, .inl f48)), (a10, .inl (cB49, 6, .inl f50)), (a11, .inl (cB51, 6, .inl f52)), (a12, .inl (cB53, 6, .inl f54)), (a5, .inr (3, [.int z1, .int k3, .int z3, .ref a17, .ref a18, .ref a19, .ref a20])), (a2, .inr (3, [.int k35, .int k36, .int k37, .ref a13, .ref a14, .ref a15, .ref a16])), (a17, .inl (cB63, 6, .inl f4)), (a18, .inl (cB65, 6, .inl f5)), (a19, .inl (cB67, 6, .inl f6)), (a20, .inl (cB69, 5, .inl f7)), (a13, .inl (cB55, 6, .inl f56)), (a14, .inl (cB57, 6, .inl f58)), (a15, .inl (cB59, 6, .inl f60)), (a16, .inl (cB61, 5, .inl f62))] := hD
  refine lv_aload_n hx hb dX1_forecast_16 rfl (lv_at hl 0 rfl) ?_
  refine lv_iconst (v := 0) hx hb dX1_forecast_17 (by decide) ?_
  refine va_put (D := (dC, dI)) (ci := 1) (v := .int 0) (ty := .int) (C := RX1) (T := TX1) (N := 4) hx hb hts iX1_forecast_X1 tyX1 tyX1_ok nmX1 hown hK hP hD hS 0 rfl rfl 1 (by decide) (hts (.fieldLink RX1 18 "HookPier$Days" "landedMany" "I") (List.mem_of_getElem? (i := 23) rfl)) (fun _ h9 => h9) rfl (by decide +kernel) rfl rfl (Nat.le_of_ble_eq_true rfl) dX1_forecast_18 (fun H locs hP hD hS => ?_)
  have hP : va_P (dC, dI) vwCl [(a0, .inr (1, [.ref a5, .int 0, .int k22, .ref a6])), (a1, .inr (4, [g23, g24, .int k25, .int k26, g27, .int k28, .int k29, g30, g31, .ref a7, .ref a8, .ref a9, .ref a10, .ref a11, .ref a12, g32, g33, g34])), (a6, .inl (cB41, 6, .inl f42)), (a7, .inl (cB43, 5, .inl f44)), (a8, .inl (cB45, 6, .inl f46)), (a9, .inl (cB47, 6, .inl f48)), (a10, .inl (cB49, 6, .inl f50)), (a11, .inl (cB51, 6, .inl f52)), (a12, .inl (cB53, 6, .inl f54)), (a5, .inr (3, [.int z1, .int k3, .int z3, .ref a17, .ref a18, .ref a19, .ref a20])), (a2, .inr (3, [.int k35, .int k36, .int k37, .ref a13, .ref a14, .ref a15, .ref a16])), (a17, .inl (cB63, 6, .inl f4)), (a18, .inl (cB65, 6, .inl f5)), (a19, .inl (cB67, 6, .inl f6)), (a20, .inl (cB69, 5, .inl f7)), (a13, .inl (cB55, 6, .inl f56)), (a14, .inl (cB57, 6, .inl f58)), (a15, .inl (cB59, 6, .inl f60)), (a16, .inl (cB61, 5, .inl f62))] H := hP
  have hD : va_D A [(a0, .inr (1, [.ref a5, .int 0, .int k22, .ref a6])), (a1, .inr (4, [g23, g24, .int k25, .int k26, g27, .int k28, .int k29, g30, g31, .ref a7, .ref a8, .ref a9, .ref a10, .ref a11, .ref a12, g32, g33, g34])), (a6, .inl (cB41, 6, .inl f42)), (a7, .inl (cB43, 5, .inl f44)), (a8, .inl (cB45, 6, .inl f46)), (a9, .inl (cB47, 6, .inl f48)), (a10, .inl (cB49, 6, .inl f50)), (a11, .inl (cB51, 6, .inl f52)), (a12, .inl (cB53, 6, .inl f54)), (a5, .inr (3, [.int z1, .int k3, .int z3, .ref a17, .ref a18, .ref a19, .ref a20])), (a2, .inr (3, [.int k35, .int k36, .int k37, .ref a13, .ref a14, .ref a15, .ref a16])), (a17, .inl (cB63, 6, .inl f4)), (a18, .inl (cB65, 6, .inl f5)), (a19, .inl (cB67, 6, .inl f6)), (a20, .inl (cB69, 5, .inl f7)), (a13, .inl (cB55, 6, .inl f56)), (a14, .inl (cB57, 6, .inl f58)), (a15, .inl (cB59, 6, .inl f60)), (a16, .inl (cB61, 5, .inl f62))] := hD
  refine lv_aload_n hx hb dX1_forecast_21 rfl (lv_at hl 0 rfl) ?_
  refine lv_iconst (v := 0) hx hb dX1_forecast_22 (by decide) ?_
  refine va_put (D := (dC, dI)) (ci := 1) (v := .int 0) (ty := .int) (C := RX1) (T := TX1) (N := 4) hx hb hts iX1_forecast_X1 tyX1 tyX1_ok nmX1 hown hK hP hD hS 0 rfl rfl 2 (by decide) (hts (.fieldLink RX1 22 "HookPier$Days" "crabTakes" "I") (List.mem_of_getElem? (i := 24) rfl)) (fun _ h9 => h9) rfl (by decide +kernel) rfl rfl (Nat.le_of_ble_eq_true rfl) dX1_forecast_23 (fun H locs hP hD hS => ?_)
  have hP : va_P (dC, dI) vwCl [(a0, .inr (1, [.ref a5, .int 0, .int 0, .ref a6])), (a1, .inr (4, [g23, g24, .int k25, .int k26, g27, .int k28, .int k29, g30, g31, .ref a7, .ref a8, .ref a9, .ref a10, .ref a11, .ref a12, g32, g33, g34])), (a6, .inl (cB41, 6, .inl f42)), (a7, .inl (cB43, 5, .inl f44)), (a8, .inl (cB45, 6, .inl f46)), (a9, .inl (cB47, 6, .inl f48)), (a10, .inl (cB49, 6, .inl f50)), (a11, .inl (cB51, 6, .inl f52)), (a12, .inl (cB53, 6, .inl f54)), (a5, .inr (3, [.int z1, .int k3, .int z3, .ref a17, .ref a18, .ref a19, .ref a20])), (a2, .inr (3, [.int k35, .int k36, .int k37, .ref a13, .ref a14, .ref a15, .ref a16])), (a17, .inl (cB63, 6, .inl f4)), (a18, .inl (cB65, 6, .inl f5)), (a19, .inl (cB67, 6, .inl f6)), (a20, .inl (cB69, 5, .inl f7)), (a13, .inl (cB55, 6, .inl f56)), (a14, .inl (cB57, 6, .inl f58)), (a15, .inl (cB59, 6, .inl f60)), (a16, .inl (cB61, 5, .inl f62))] H := hP
  have hD : va_D A [(a0, .inr (1, [.ref a5, .int 0, .int 0, .ref a6])), (a1, .inr (4, [g23, g24, .int k25, .int k26, g27, .int k28, .int k29, g30, g31, .ref a7, .ref a8, .ref a9, .ref a10, .ref a11, .ref a12, g32, g33, g34])), (a6, .inl (cB41, 6, .inl f42)), (a7, .inl (cB43, 5, .inl f44)), (a8, .inl (cB45, 6, .inl f46)), (a9, .inl (cB47, 6, .inl f48)), (a10, .inl (cB49, 6, .inl f50)), (a11, .inl (cB51, 6, .inl f52)), (a12, .inl (cB53, 6, .inl f54)), (a5, .inr (3, [.int z1, .int k3, .int z3, .ref a17, .ref a18, .ref a19, .ref a20])), (a2, .inr (3, [.int k35, .int k36, .int k37, .ref a13, .ref a14, .ref a15, .ref a16])), (a17, .inl (cB63, 6, .inl f4)), (a18, .inl (cB65, 6, .inl f5)), (a19, .inl (cB67, 6, .inl f6)), (a20, .inl (cB69, 5, .inl f7)), (a13, .inl (cB55, 6, .inl f56)), (a14, .inl (cB57, 6, .inl f58)), (a15, .inl (cB59, 6, .inl f60)), (a16, .inl (cB61, 5, .inl f62))] := hD
  refine lv_iconst (v := 0) hx hb dX1_forecast_26 (by decide) ?_
  refine lv_istore (lv' := [(5, .int 0), (0, .ref a0), (1, .ref a1), (2, .ref a2), (3, .int k3), (4, .int k4)]) hx hb dX1_forecast_27 hl (by decide) rfl (fun ls hl => ?_)
  have L29_316 : ∀ (n : Nat) (z314 : Int32) (f315 : Nat → Int32) (H : Heap) (locs : List Loc) (ls : Array Slot), (0 ≤ z314.toInt ∧ z314.toInt ≤ 6) → 6 - z314.toInt < (n : Int) → va_P (dC, dI) vwCl [(a0, .inr (1, [.ref a5, .int 0, .int 0, .ref a6])), (a1, .inr (4, [g23, g24, .int k25, .int k26, g27, .int k28, .int k29, g30, g31, .ref a7, .ref a8, .ref a9, .ref a10, .ref a11, .ref a12, g32, g33, g34])), (a6, .inl (cB41, 6, .inl f315)), (a7, .inl (cB43, 5, .inl f44)), (a8, .inl (cB45, 6, .inl f46)), (a9, .inl (cB47, 6, .inl f48)), (a10, .inl (cB49, 6, .inl f50)), (a11, .inl (cB51, 6, .inl f52)), (a12, .inl (cB53, 6, .inl f54)), (a5, .inr (3, [.int z1, .int k3, .int z3, .ref a17, .ref a18, .ref a19, .ref a20])), (a2, .inr (3, [.int k35, .int k36, .int k37, .ref a13, .ref a14, .ref a15, .ref a16])), (a17, .inl (cB63, 6, .inl f4)), (a18, .inl (cB65, 6, .inl f5)), (a19, .inl (cB67, 6, .inl f6)), (a20, .inl (cB69, 5, .inl f7)), (a13, .inl (cB55, 6, .inl f56)), (a14, .inl (cB57, 6, .inl f58)), (a15, .inl (cB59, 6, .inl f60)), (a16, .inl (cB61, 5, .inl f62))] H → va_D A [(a0, .inr (1, [.ref a5, .int 0, .int 0, .ref a6])), (a1, .inr (4, [g23, g24, .int k25, .int k26, g27, .int k28, .int k29, g30, g31, .ref a7, .ref a8, .ref a9, .ref a10, .ref a11, .ref a12, g32, g33, g34])), (a6, .inl (cB41, 6, .inl f315)), (a7, .inl (cB43, 5, .inl f44)), (a8, .inl (cB45, 6, .inl f46)), (a9, .inl (cB47, 6, .inl f48)), (a10, .inl (cB49, 6, .inl f50)), (a11, .inl (cB51, 6, .inl f52)), (a12, .inl (cB53, 6, .inl f54)), (a5, .inr (3, [.int z1, .int k3, .int z3, .ref a17, .ref a18, .ref a19, .ref a20])), (a2, .inr (3, [.int k35, .int k36, .int k37, .ref a13, .ref a14, .ref a15, .ref a16])), (a17, .inl (cB63, 6, .inl f4)), (a18, .inl (cB65, 6, .inl f5)), (a19, .inl (cB67, 6, .inl f6)), (a20, .inl (cB69, 5, .inl f7)), (a13, .inl (cB55, 6, .inl f56)), (a14, .inl (cB57, 6, .inl f58)), (a15, .inl (cB59, 6, .inl f60)), (a16, .inl (cB61, 5, .inl f62))] → va_S A s.heap H locs → lv_has ls 6 [(5, .int z314), (0, .ref a0), (1, .ref a1), (2, .ref a2), (3, .int k3), (4, .int k4)] → W p l e (headSpec vX1_forecast { frames := 5, cells := 0, slots := 0, locals := 118 }).room s m ([.ref a0, .ref a1, .ref a2, .int k3, .int k4]).toArray below meth c H locs 0 0 (MQ below (va_Qv (S := Int32 × Int32 × Int32 × Int32 × Int32 × (Nat → Int32) × (Nat → Int32) × (Nat → Int32) × (Nat → Int32) × (Nat → Int32)) (fun u => True) (fun u t => BC (dC, dI) A [(a0, .inr (1, [.ref a5, .int (u.1), .int (u.2.1), .ref a6])), (a1, .inr (4, [g23, g24, .int k25, .int k26, g27, .int k28, .int k29, g30, g31, .ref a7, .ref a8, .ref a9, .ref a10, .ref a11, .ref a12, g32, g33, g34])), (a2, .inr (3, [.int k35, .int k36, .int k37, .ref a13, .ref a14, .ref a15, .ref a16])), (a5, .inr (3, [.int (u.2.2.1), .int (u.2.2.2.1), .int (u.2.2.2.2.1), .ref a17, .ref a18, .ref a19, .ref a20])), (a6, .inl (cB41, 6, .inl (u.2.2.2.2.2.1))), (a7, .inl (cB43, 5, .inl f44)), (a8, .inl (cB45, 6, .inl f46)), (a9, .inl (cB47, 6, .inl f48)), (a10, .inl (cB49, 6, .inl f50)), (a11, .inl (cB51, 6, .inl f52)), (a12, .inl (cB53, 6, .inl f54)), (a13, .inl (cB55, 6, .inl f56)), (a14, .inl (cB57, 6, .inl f58)), (a15, .inl (cB59, 6, .inl f60)), (a16, .inl (cB61, 5, .inl f62)), (a17, .inl (cB63, 6, .inl (u.2.2.2.2.2.2.1))), (a18, .inl (cB65, 6, .inl (u.2.2.2.2.2.2.2.1))), (a19, .inl (cB67, 6, .inl (u.2.2.2.2.2.2.2.2.1))), (a20, .inl (cB69, 5, .inl (u.2.2.2.2.2.2.2.2.2)))] [] t) A) ([.ref a0, .ref a1, .ref a2, .int k3, .int k4]).toArray s 0 0 A) (F0 m 29 ls []) := by
    intro n
    induction n with
    | zero =>
      intro z314 f315 H locs ls b29_0 hm _ _ _ _
      exact absurd hm (by omega)
    | succ n ih29 =>
      intro z314 f315 H locs ls b29_0 hm29 hP hD hS hl
      refine lv_iload hx hb dX1_forecast_29 (lv_at hl 0 rfl) ?_
      refine lv_aload_n hx hb dX1_forecast_31 rfl (lv_at hl 1 rfl) ?_
      refine va_get (D := (dC, dI)) (ci := 1) (v := .ref a6) (C := RX1) (T := TX1) (N := 4) hx hb hts iX1_forecast_X1 hown hK hP 0 rfl rfl 3 (by decide) (hts (.fieldLink RX1 25 "HookPier$Days" "landedInDay" "[I") (List.mem_of_getElem? (i := 25) rfl)) (fun _ h9 => h9) rfl dX1_forecast_32 ?_
      refine va_alen (v := 6) hx hb hK hP 2 0 rfl rfl rfl dX1_forecast_35 ?_
      refine lv_icmp_ge (tgt := 53) hx hb dX1_forecast_36 (by decide) (fun c317 => ?_) (fun c317 => ?_)
      · simp only [fa_lt, fa_le, fa_eq, ltv_0, ltv_6] at c317
        refine lv_iconst (v := 1) hx hb dX1_forecast_53 (by decide) ?_
        refine lv_istore (lv' := [(5, .int 1), (0, .ref a0), (1, .ref a1), (2, .ref a2), (3, .int k3), (4, .int k4)]) hx hb dX1_forecast_54 hl (by decide) rfl (fun ls hl => ?_)
        have L56_600 : ∀ (n : Nat) (z590 : Int32) (z591 : Int32) (z592 : Int32) (f593 : Nat → Int32) (z594 : Int32) (z595 : Int32) (f596 : Nat → Int32) (f597 : Nat → Int32) (f598 : Nat → Int32) (f599 : Nat → Int32) (H : Heap) (locs : List Loc) (ls : Array Slot), (1 ≤ z590.toInt ∧ z590.toInt ≤ 63) → 63 - z590.toInt < (n : Int) → va_P (dC, dI) vwCl [(a0, .inr (1, [.ref a5, .int z591, .int z592, .ref a6])), (a1, .inr (4, [g23, g24, .int k25, .int k26, g27, .int k28, .int k29, g30, g31, .ref a7, .ref a8, .ref a9, .ref a10, .ref a11, .ref a12, g32, g33, g34])), (a6, .inl (cB41, 6, .inl f593)), (a7, .inl (cB43, 5, .inl f44)), (a8, .inl (cB45, 6, .inl f46)), (a9, .inl (cB47, 6, .inl f48)), (a10, .inl (cB49, 6, .inl f50)), (a11, .inl (cB51, 6, .inl f52)), (a12, .inl (cB53, 6, .inl f54)), (a5, .inr (3, [.int z594, .int z595, .int z3, .ref a17, .ref a18, .ref a19, .ref a20])), (a2, .inr (3, [.int k35, .int k36, .int k37, .ref a13, .ref a14, .ref a15, .ref a16])), (a17, .inl (cB63, 6, .inl f596)), (a18, .inl (cB65, 6, .inl f597)), (a19, .inl (cB67, 6, .inl f598)), (a20, .inl (cB69, 5, .inl f599)), (a13, .inl (cB55, 6, .inl f56)), (a14, .inl (cB57, 6, .inl f58)), (a15, .inl (cB59, 6, .inl f60)), (a16, .inl (cB61, 5, .inl f62))] H → va_D A [(a0, .inr (1, [.ref a5, .int z591, .int z592, .ref a6])), (a1, .inr (4, [g23, g24, .int k25, .int k26, g27, .int k28, .int k29, g30, g31, .ref a7, .ref a8, .ref a9, .ref a10, .ref a11, .ref a12, g32, g33, g34])), (a6, .inl (cB41, 6, .inl f593)), (a7, .inl (cB43, 5, .inl f44)), (a8, .inl (cB45, 6, .inl f46)), (a9, .inl (cB47, 6, .inl f48)), (a10, .inl (cB49, 6, .inl f50)), (a11, .inl (cB51, 6, .inl f52)), (a12, .inl (cB53, 6, .inl f54)), (a5, .inr (3, [.int z594, .int z595, .int z3, .ref a17, .ref a18, .ref a19, .ref a20])), (a2, .inr (3, [.int k35, .int k36, .int k37, .ref a13, .ref a14, .ref a15, .ref a16])), (a17, .inl (cB63, 6, .inl f596)), (a18, .inl (cB65, 6, .inl f597)), (a19, .inl (cB67, 6, .inl f598)), (a20, .inl (cB69, 5, .inl f599)), (a13, .inl (cB55, 6, .inl f56)), (a14, .inl (cB57, 6, .inl f58)), (a15, .inl (cB59, 6, .inl f60)), (a16, .inl (cB61, 5, .inl f62))] → va_S A s.heap H locs → lv_has ls 6 [(5, .int z590), (0, .ref a0), (1, .ref a1), (2, .ref a2), (3, .int k3), (4, .int k4)] → W p l e (headSpec vX1_forecast { frames := 5, cells := 0, slots := 0, locals := 118 }).room s m ([.ref a0, .ref a1, .ref a2, .int k3, .int k4]).toArray below meth c H locs 0 0 (MQ below (va_Qv (S := Int32 × Int32 × Int32 × Int32 × Int32 × (Nat → Int32) × (Nat → Int32) × (Nat → Int32) × (Nat → Int32) × (Nat → Int32)) (fun u => True) (fun u t => BC (dC, dI) A [(a0, .inr (1, [.ref a5, .int (u.1), .int (u.2.1), .ref a6])), (a1, .inr (4, [g23, g24, .int k25, .int k26, g27, .int k28, .int k29, g30, g31, .ref a7, .ref a8, .ref a9, .ref a10, .ref a11, .ref a12, g32, g33, g34])), (a2, .inr (3, [.int k35, .int k36, .int k37, .ref a13, .ref a14, .ref a15, .ref a16])), (a5, .inr (3, [.int (u.2.2.1), .int (u.2.2.2.1), .int (u.2.2.2.2.1), .ref a17, .ref a18, .ref a19, .ref a20])), (a6, .inl (cB41, 6, .inl (u.2.2.2.2.2.1))), (a7, .inl (cB43, 5, .inl f44)), (a8, .inl (cB45, 6, .inl f46)), (a9, .inl (cB47, 6, .inl f48)), (a10, .inl (cB49, 6, .inl f50)), (a11, .inl (cB51, 6, .inl f52)), (a12, .inl (cB53, 6, .inl f54)), (a13, .inl (cB55, 6, .inl f56)), (a14, .inl (cB57, 6, .inl f58)), (a15, .inl (cB59, 6, .inl f60)), (a16, .inl (cB61, 5, .inl f62)), (a17, .inl (cB63, 6, .inl (u.2.2.2.2.2.2.1))), (a18, .inl (cB65, 6, .inl (u.2.2.2.2.2.2.2.1))), (a19, .inl (cB67, 6, .inl (u.2.2.2.2.2.2.2.2.1))), (a20, .inl (cB69, 5, .inl (u.2.2.2.2.2.2.2.2.2)))] [] t) A) ([.ref a0, .ref a1, .ref a2, .int k3, .int k4]).toArray s 0 0 A) (F0 m 56 ls []) := by
          intro n
          induction n with
          | zero =>
            intro z590 z591 z592 f593 z594 z595 f596 f597 f598 f599 H locs ls b56_0 hm _ _ _ _
            exact absurd hm (by omega)
          | succ n ih56 =>
            intro z590 z591 z592 f593 z594 z595 f596 f597 f598 f599 H locs ls b56_0 hm56 hP hD hS hl
            refine lv_iload hx hb dX1_forecast_56 (lv_at hl 0 rfl) ?_
            refine lv_iload hx hb dX1_forecast_58 (lv_at hl 5 rfl) ?_
            refine lv_icmp_gt (tgt := 92) hx hb dX1_forecast_60 (by decide) (fun c601 => ?_) (fun c601 => ?_)
            · simp only [fa_lt, fa_le, fa_eq, ltv_0] at c601
              have hP9 := hP.sub (ws' := [(a0, .inr (1, [.ref a5, .int z591, .int z592, .ref a6])), (a1, .inr (4, [g23, g24, .int k25, .int k26, g27, .int k28, .int k29, g30, g31, .ref a7, .ref a8, .ref a9, .ref a10, .ref a11, .ref a12, g32, g33, g34])), (a2, .inr (3, [.int k35, .int k36, .int k37, .ref a13, .ref a14, .ref a15, .ref a16])), (a5, .inr (3, [.int z594, .int z595, .int z3, .ref a17, .ref a18, .ref a19, .ref a20])), (a6, .inl (cB41, 6, .inl f593)), (a7, .inl (cB43, 5, .inl f44)), (a8, .inl (cB45, 6, .inl f46)), (a9, .inl (cB47, 6, .inl f48)), (a10, .inl (cB49, 6, .inl f50)), (a11, .inl (cB51, 6, .inl f52)), (a12, .inl (cB53, 6, .inl f54)), (a13, .inl (cB55, 6, .inl f56)), (a14, .inl (cB57, 6, .inl f58)), (a15, .inl (cB59, 6, .inl f60)), (a16, .inl (cB61, 5, .inl f62)), (a17, .inl (cB63, 6, .inl f596)), (a18, .inl (cB65, 6, .inl f597)), (a19, .inl (cB67, 6, .inl f598)), (a20, .inl (cB69, 5, .inl f599))]) [0, 1, 10, 9, 2, 3, 4, 5, 6, 7, 8, 15, 16, 17, 18, 11, 12, 13, 14] rfl
              have hD9 := hD.sub (ws' := [(a0, .inr (1, [.ref a5, .int z591, .int z592, .ref a6])), (a1, .inr (4, [g23, g24, .int k25, .int k26, g27, .int k28, .int k29, g30, g31, .ref a7, .ref a8, .ref a9, .ref a10, .ref a11, .ref a12, g32, g33, g34])), (a2, .inr (3, [.int k35, .int k36, .int k37, .ref a13, .ref a14, .ref a15, .ref a16])), (a5, .inr (3, [.int z594, .int z595, .int z3, .ref a17, .ref a18, .ref a19, .ref a20])), (a6, .inl (cB41, 6, .inl f593)), (a7, .inl (cB43, 5, .inl f44)), (a8, .inl (cB45, 6, .inl f46)), (a9, .inl (cB47, 6, .inl f48)), (a10, .inl (cB49, 6, .inl f50)), (a11, .inl (cB51, 6, .inl f52)), (a12, .inl (cB53, 6, .inl f54)), (a13, .inl (cB55, 6, .inl f56)), (a14, .inl (cB57, 6, .inl f58)), (a15, .inl (cB59, 6, .inl f60)), (a16, .inl (cB61, 5, .inl f62)), (a17, .inl (cB63, 6, .inl f596)), (a18, .inl (cB65, 6, .inl f597)), (a19, .inl (cB67, 6, .inl f598)), (a20, .inl (cB69, 5, .inl f599))]) [0, 1, 10, 9, 2, 3, 4, 5, 6, 7, 8, 15, 16, 17, 18, 11, 12, 13, 14] (by decide) rfl
              have hK9 := hK.sub (tys' := []) [] rfl
              exact W.vret hx hb hr (fun t ht hW => ⟨⟨(z591, z592, z594, z595, z3, f593, f596, f597, f598, f599), rfl, trivial, by rw [ht]; exact hP9, va_K.moved hW.alike hK9, hD9⟩, hS.F ht⟩) hS.2.2 dX1_forecast_92
            · simp only [fa_lt, fa_le, fa_eq, ltv_0] at c601
              refine lv_aload_n hx hb dX1_forecast_63 rfl (lv_at hl 1 rfl) ?_
              refine va_get (D := (dC, dI)) (ci := 1) (v := .ref a5) (C := RX1) (T := TX1) (N := 4) hx hb hts iX1_forecast_X1 hown hK hP 0 rfl rfl 0 (by decide) (hts (.fieldLink RX1 12 "HookPier$Days" "ahead" "LHookPier$Now;") (List.mem_of_getElem? (i := 1) rfl)) (fun _ h9 => h9) rfl dX1_forecast_64 ?_
              refine lv_aload_n hx hb dX1_forecast_67 rfl (lv_at hl 3 rfl) ?_
              refine cl_v (wc := [(a5, .inr (3, [.int z594, .int z595, .int z3, .ref a17, .ref a18, .ref a19, .ref a20])), (a2, .inr (3, [.int k35, .int k36, .int k37, .ref a13, .ref a14, .ref a15, .ref a16])), (a20, .inl (cB69, 5, .inl f599)), (a16, .inl (cB61, 5, .inl f62))]) (wr := [(a0, .inr (1, [.ref a5, .int z591, .int z592, .ref a6])), (a1, .inr (4, [g23, g24, .int k25, .int k26, g27, .int k28, .int k29, g30, g31, .ref a7, .ref a8, .ref a9, .ref a10, .ref a11, .ref a12, g32, g33, g34])), (a6, .inl (cB41, 6, .inl f593)), (a7, .inl (cB43, 5, .inl f44)), (a8, .inl (cB45, 6, .inl f46)), (a9, .inl (cB47, 6, .inl f48)), (a10, .inl (cB49, 6, .inl f50)), (a11, .inl (cB51, 6, .inl f52)), (a12, .inl (cB53, 6, .inl f54)), (a17, .inl (cB63, 6, .inl f596)), (a18, .inl (cB65, 6, .inl f597)), (a19, .inl (cB67, 6, .inl f598)), (a13, .inl (cB55, 6, .inl f56)), (a14, .inl (cB57, 6, .inl f58)), (a15, .inl (cB59, 6, .inl f60))]) (va_runV (As := [.ref a2]) (rest := []) ⟨hx, hb, hml, hown, hts⟩ (kX4_letDownAs l dC dI a5 a2 a20 a16 (.int z594) (.int z595) (.int z3) (.ref a17) (.ref a18) (.ref a19) (.int k35) (.int k36) (.int k37) (.ref a13) (.ref a14) (.ref a15) cB69 f599 cB61 f62  H.size) (cwV 1 hts gX1_forecast_1 rfl rfl rfl (by decide +kernel) ⟨Nat.le_of_ble_eq_true rfl, Nat.le_of_ble_eq_true rfl⟩) (PV (hP.sub (ws' := [(a5, .inr (3, [.int z594, .int z595, .int z3, .ref a17, .ref a18, .ref a19, .ref a20])), (a2, .inr (3, [.int k35, .int k36, .int k37, .ref a13, .ref a14, .ref a15, .ref a16])), (a20, .inl (cB69, 5, .inl f599)), (a16, .inl (cB61, 5, .inl f62))]) [9, 10, 14, 18] rfl) (hK.sub (tys' := [(cB69, .int), (cB61, .int)]) [14, 10] rfl) (hD.sub (ws' := [(a5, .inr (3, [.int z594, .int z595, .int z3, .ref a17, .ref a18, .ref a19, .ref a20])), (a2, .inr (3, [.int k35, .int k36, .int k37, .ref a13, .ref a14, .ref a15, .ref a16])), (a20, .inl (cB69, 5, .inl f599)), (a16, .inl (cB61, 5, .inl f62))]) [9, 10, 14, 18] (by decide) rfl) hN 0 rfl rfl) rfl rfl hl.1 rfl (lv_room (Nat.le_of_ble_eq_true rfl)) dX1_forecast_68 ⟨Nat.le_of_ble_eq_true rfl, Nat.le_of_ble_eq_true rfl⟩) hP hD hK hS hA [9, 10, 14, 18] [0, 1, 2, 3, 4, 5, 6, 7, 8, 11, 12, 13, 15, 16, 17] rfl rfl (by decide) (by decide) (fun f602 H locs hw hP hD hK hS => ?_)
              have b603 := hw
              have hP : va_P (dC, dI) vwCl [(a0, .inr (1, [.ref a5, .int z591, .int z592, .ref a6])), (a1, .inr (4, [g23, g24, .int k25, .int k26, g27, .int k28, .int k29, g30, g31, .ref a7, .ref a8, .ref a9, .ref a10, .ref a11, .ref a12, g32, g33, g34])), (a6, .inl (cB41, 6, .inl f593)), (a7, .inl (cB43, 5, .inl f44)), (a8, .inl (cB45, 6, .inl f46)), (a9, .inl (cB47, 6, .inl f48)), (a10, .inl (cB49, 6, .inl f50)), (a11, .inl (cB51, 6, .inl f52)), (a12, .inl (cB53, 6, .inl f54)), (a17, .inl (cB63, 6, .inl f596)), (a18, .inl (cB65, 6, .inl f597)), (a19, .inl (cB67, 6, .inl f598)), (a13, .inl (cB55, 6, .inl f56)), (a14, .inl (cB57, 6, .inl f58)), (a15, .inl (cB59, 6, .inl f60)), (a5, .inr (3, [.int z594, .int z595, .int z3, .ref a17, .ref a18, .ref a19, .ref a20])), (a2, .inr (3, [.int k35, .int k36, .int k37, .ref a13, .ref a14, .ref a15, .ref a16])), (a20, .inl (cB69, 5, .inl f602)), (a16, .inl (cB61, 5, .inl f62))] H := hP
              have hD : va_D A [(a0, .inr (1, [.ref a5, .int z591, .int z592, .ref a6])), (a1, .inr (4, [g23, g24, .int k25, .int k26, g27, .int k28, .int k29, g30, g31, .ref a7, .ref a8, .ref a9, .ref a10, .ref a11, .ref a12, g32, g33, g34])), (a6, .inl (cB41, 6, .inl f593)), (a7, .inl (cB43, 5, .inl f44)), (a8, .inl (cB45, 6, .inl f46)), (a9, .inl (cB47, 6, .inl f48)), (a10, .inl (cB49, 6, .inl f50)), (a11, .inl (cB51, 6, .inl f52)), (a12, .inl (cB53, 6, .inl f54)), (a17, .inl (cB63, 6, .inl f596)), (a18, .inl (cB65, 6, .inl f597)), (a19, .inl (cB67, 6, .inl f598)), (a13, .inl (cB55, 6, .inl f56)), (a14, .inl (cB57, 6, .inl f58)), (a15, .inl (cB59, 6, .inl f60)), (a5, .inr (3, [.int z594, .int z595, .int z3, .ref a17, .ref a18, .ref a19, .ref a20])), (a2, .inr (3, [.int k35, .int k36, .int k37, .ref a13, .ref a14, .ref a15, .ref a16])), (a20, .inl (cB69, 5, .inl f602)), (a16, .inl (cB61, 5, .inl f62))] := hD
              have hK : va_K (dC, dI) vwCl [(cB41, .int), (cB43, .int), (cB45, .int), (cB47, .int), (cB49, .int), (cB51, .int), (cB53, .int), (cB55, .int), (cB57, .int), (cB59, .int), (cB61, .int), (cB63, .int), (cB65, .int), (cB67, .int), (cB69, .int)] s := hK
              refine lv_aload_n hx hb dX1_forecast_71 rfl (lv_at hl 1 rfl) ?_
              refine lv_aload_n hx hb dX1_forecast_72 rfl (lv_at hl 1 rfl) ?_
              refine lv_aload_n hx hb dX1_forecast_73 rfl (lv_at hl 2 rfl) ?_
              refine lv_aload_n hx hb dX1_forecast_74 rfl (lv_at hl 1 rfl) ?_
              refine va_get (D := (dC, dI)) (ci := 1) (v := .ref a5) (C := RX1) (T := TX1) (N := 4) hx hb hts iX1_forecast_X1 hown hK hP 0 rfl rfl 0 (by decide) (hts (.fieldLink RX1 12 "HookPier$Days" "ahead" "LHookPier$Now;") (List.mem_of_getElem? (i := 1) rfl)) (fun _ h9 => h9) rfl dX1_forecast_75 ?_
              refine cl_i (wc := [(a0, .inr (1, [.ref a5, .int z591, .int z592, .ref a6])), (a1, .inr (4, [g23, g24, .int k25, .int k26, g27, .int k28, .int k29, g30, g31, .ref a7, .ref a8, .ref a9, .ref a10, .ref a11, .ref a12, g32, g33, g34])), (a5, .inr (3, [.int z594, .int z595, .int z3, .ref a17, .ref a18, .ref a19, .ref a20])), (a7, .inl (cB43, 5, .inl f44)), (a8, .inl (cB45, 6, .inl f46)), (a9, .inl (cB47, 6, .inl f48)), (a10, .inl (cB49, 6, .inl f50)), (a11, .inl (cB51, 6, .inl f52)), (a12, .inl (cB53, 6, .inl f54)), (a17, .inl (cB63, 6, .inl f596)), (a18, .inl (cB65, 6, .inl f597)), (a19, .inl (cB67, 6, .inl f598)), (a20, .inl (cB69, 5, .inl f602))]) (wr := [(a6, .inl (cB41, 6, .inl f593)), (a13, .inl (cB55, 6, .inl f56)), (a14, .inl (cB57, 6, .inl f58)), (a15, .inl (cB59, 6, .inl f60)), (a2, .inr (3, [.int k35, .int k36, .int k37, .ref a13, .ref a14, .ref a15, .ref a16])), (a16, .inl (cB61, 5, .inl f62))]) (va_runV (As := [.ref a1, .ref a5]) (rest := [.ref a0]) ⟨hx, hb, hml, hown, hts⟩ (kX1_pass l dC dI a0 a1 a5 a7 a8 a9 a10 a11 a12 a17 a18 a19 a20 (.ref a5) (.int z591) z592 (.ref a6) (g23) (g24) k25 k26 (g27) k28 k29 (g30) (g31) (g32) (g33) (g34) z594 z595 (.int z3) cB43 f44 cB45 f46 cB47 f48 cB49 f50 cB51 f52 cB53 f54 cB63 f596 cB65 f597 cB67 f598 cB69 f602 (by first | omega | (simp only [ltv_0]; omega)) (by first | omega | (simp only [ltv_0]; omega)) H.size) (cwV 2 hts gX1_forecast_2 rfl rfl rfl (by decide +kernel) ⟨Nat.le_of_ble_eq_true rfl, Nat.le_of_ble_eq_true rfl⟩) (PV (hP.sub (ws' := [(a0, .inr (1, [.ref a5, .int z591, .int z592, .ref a6])), (a1, .inr (4, [g23, g24, .int k25, .int k26, g27, .int k28, .int k29, g30, g31, .ref a7, .ref a8, .ref a9, .ref a10, .ref a11, .ref a12, g32, g33, g34])), (a5, .inr (3, [.int z594, .int z595, .int z3, .ref a17, .ref a18, .ref a19, .ref a20])), (a7, .inl (cB43, 5, .inl f44)), (a8, .inl (cB45, 6, .inl f46)), (a9, .inl (cB47, 6, .inl f48)), (a10, .inl (cB49, 6, .inl f50)), (a11, .inl (cB51, 6, .inl f52)), (a12, .inl (cB53, 6, .inl f54)), (a17, .inl (cB63, 6, .inl f596)), (a18, .inl (cB65, 6, .inl f597)), (a19, .inl (cB67, 6, .inl f598)), (a20, .inl (cB69, 5, .inl f602))]) [0, 1, 15, 3, 4, 5, 6, 7, 8, 9, 10, 11, 17] rfl) (hK.sub (tys' := [(cB43, .int), (cB45, .int), (cB47, .int), (cB49, .int), (cB51, .int), (cB53, .int), (cB63, .int), (cB65, .int), (cB67, .int), (cB69, .int)]) [1, 2, 3, 4, 5, 6, 11, 12, 13, 14] rfl) (hD.sub (ws' := [(a0, .inr (1, [.ref a5, .int z591, .int z592, .ref a6])), (a1, .inr (4, [g23, g24, .int k25, .int k26, g27, .int k28, .int k29, g30, g31, .ref a7, .ref a8, .ref a9, .ref a10, .ref a11, .ref a12, g32, g33, g34])), (a5, .inr (3, [.int z594, .int z595, .int z3, .ref a17, .ref a18, .ref a19, .ref a20])), (a7, .inl (cB43, 5, .inl f44)), (a8, .inl (cB45, 6, .inl f46)), (a9, .inl (cB47, 6, .inl f48)), (a10, .inl (cB49, 6, .inl f50)), (a11, .inl (cB51, 6, .inl f52)), (a12, .inl (cB53, 6, .inl f54)), (a17, .inl (cB63, 6, .inl f596)), (a18, .inl (cB65, 6, .inl f597)), (a19, .inl (cB67, 6, .inl f598)), (a20, .inl (cB69, 5, .inl f602))]) [0, 1, 15, 3, 4, 5, 6, 7, 8, 9, 10, 11, 17] (by decide) rfl) hN 0 rfl rfl) rfl rfl hl.1 rfl (lv_room (Nat.le_of_ble_eq_true rfl)) dX1_forecast_78 ⟨Nat.le_of_ble_eq_true rfl, Nat.le_of_ble_eq_true rfl⟩) hP hD hK hS hA [0, 1, 15, 3, 4, 5, 6, 7, 8, 9, 10, 11, 17] [2, 12, 13, 14, 16, 18] rfl rfl (by decide) (by decide) (fun z611 u H locs hw hP hD hK hS => ?_)
              obtain ⟨z604, z605, z606, f607, f608, f609, f610⟩ := u
              have b612 := hw
              have hP : va_P (dC, dI) vwCl [(a6, .inl (cB41, 6, .inl f593)), (a13, .inl (cB55, 6, .inl f56)), (a14, .inl (cB57, 6, .inl f58)), (a15, .inl (cB59, 6, .inl f60)), (a2, .inr (3, [.int k35, .int k36, .int k37, .ref a13, .ref a14, .ref a15, .ref a16])), (a16, .inl (cB61, 5, .inl f62)), (a0, .inr (1, [.ref a5, .int z591, .int z604, .ref a6])), (a1, .inr (4, [g23, g24, .int k25, .int k26, g27, .int k28, .int k29, g30, g31, .ref a7, .ref a8, .ref a9, .ref a10, .ref a11, .ref a12, g32, g33, g34])), (a5, .inr (3, [.int z605, .int z606, .int z3, .ref a17, .ref a18, .ref a19, .ref a20])), (a7, .inl (cB43, 5, .inl f44)), (a8, .inl (cB45, 6, .inl f46)), (a9, .inl (cB47, 6, .inl f48)), (a10, .inl (cB49, 6, .inl f50)), (a11, .inl (cB51, 6, .inl f52)), (a12, .inl (cB53, 6, .inl f54)), (a17, .inl (cB63, 6, .inl f607)), (a18, .inl (cB65, 6, .inl f608)), (a19, .inl (cB67, 6, .inl f609)), (a20, .inl (cB69, 5, .inl f610))] H := hP
              have hD : va_D A [(a6, .inl (cB41, 6, .inl f593)), (a13, .inl (cB55, 6, .inl f56)), (a14, .inl (cB57, 6, .inl f58)), (a15, .inl (cB59, 6, .inl f60)), (a2, .inr (3, [.int k35, .int k36, .int k37, .ref a13, .ref a14, .ref a15, .ref a16])), (a16, .inl (cB61, 5, .inl f62)), (a0, .inr (1, [.ref a5, .int z591, .int z604, .ref a6])), (a1, .inr (4, [g23, g24, .int k25, .int k26, g27, .int k28, .int k29, g30, g31, .ref a7, .ref a8, .ref a9, .ref a10, .ref a11, .ref a12, g32, g33, g34])), (a5, .inr (3, [.int z605, .int z606, .int z3, .ref a17, .ref a18, .ref a19, .ref a20])), (a7, .inl (cB43, 5, .inl f44)), (a8, .inl (cB45, 6, .inl f46)), (a9, .inl (cB47, 6, .inl f48)), (a10, .inl (cB49, 6, .inl f50)), (a11, .inl (cB51, 6, .inl f52)), (a12, .inl (cB53, 6, .inl f54)), (a17, .inl (cB63, 6, .inl f607)), (a18, .inl (cB65, 6, .inl f608)), (a19, .inl (cB67, 6, .inl f609)), (a20, .inl (cB69, 5, .inl f610))] := hD
              have hK : va_K (dC, dI) vwCl [(cB41, .int), (cB43, .int), (cB45, .int), (cB47, .int), (cB49, .int), (cB51, .int), (cB53, .int), (cB55, .int), (cB57, .int), (cB59, .int), (cB61, .int), (cB63, .int), (cB65, .int), (cB67, .int), (cB69, .int)] s := hK
              refine lv_iload hx hb dX1_forecast_81 (lv_at hl 0 rfl) ?_
              refine cl_v (wc := [(a0, .inr (1, [.ref a5, .int z591, .int z604, .ref a6])), (a6, .inl (cB41, 6, .inl f593))]) (wr := [(a13, .inl (cB55, 6, .inl f56)), (a14, .inl (cB57, 6, .inl f58)), (a15, .inl (cB59, 6, .inl f60)), (a2, .inr (3, [.int k35, .int k36, .int k37, .ref a13, .ref a14, .ref a15, .ref a16])), (a16, .inl (cB61, 5, .inl f62)), (a1, .inr (4, [g23, g24, .int k25, .int k26, g27, .int k28, .int k29, g30, g31, .ref a7, .ref a8, .ref a9, .ref a10, .ref a11, .ref a12, g32, g33, g34])), (a5, .inr (3, [.int z605, .int z606, .int z3, .ref a17, .ref a18, .ref a19, .ref a20])), (a7, .inl (cB43, 5, .inl f44)), (a8, .inl (cB45, 6, .inl f46)), (a9, .inl (cB47, 6, .inl f48)), (a10, .inl (cB49, 6, .inl f50)), (a11, .inl (cB51, 6, .inl f52)), (a12, .inl (cB53, 6, .inl f54)), (a17, .inl (cB63, 6, .inl f607)), (a18, .inl (cB65, 6, .inl f608)), (a19, .inl (cB67, 6, .inl f609)), (a20, .inl (cB69, 5, .inl f610))]) (va_runV (As := [.int z611, .int z590]) (rest := []) ⟨hx, hb, hml, hown, hts⟩ (kX1_note l dC dI a0 z611 z590 a6 (.ref a5) z591 (.int z604) cB41 f593  H.size) (cwV 2 hts gX1_forecast_3 rfl rfl rfl (by decide +kernel) ⟨Nat.le_of_ble_eq_true rfl, Nat.le_of_ble_eq_true rfl⟩) (PV (hP.sub (ws' := [(a0, .inr (1, [.ref a5, .int z591, .int z604, .ref a6])), (a6, .inl (cB41, 6, .inl f593))]) [6, 0] rfl) (hK.sub (tys' := [(cB41, .int)]) [0] rfl) (hD.sub (ws' := [(a0, .inr (1, [.ref a5, .int z591, .int z604, .ref a6])), (a6, .inl (cB41, 6, .inl f593))]) [6, 0] (by decide) rfl) hN 0 rfl rfl) rfl rfl hl.1 rfl (lv_room (Nat.le_of_ble_eq_true rfl)) dX1_forecast_83 ⟨Nat.le_of_ble_eq_true rfl, Nat.le_of_ble_eq_true rfl⟩) hP hD hK hS hA [6, 0] [1, 2, 3, 4, 5, 7, 8, 9, 10, 11, 12, 13, 14, 15, 16, 17, 18] rfl rfl (by decide) (by decide) (fun u H locs hw hP hD hK hS => ?_)
              obtain ⟨z613, f614⟩ := u
              have b615 := hw
              have hP : va_P (dC, dI) vwCl [(a13, .inl (cB55, 6, .inl f56)), (a14, .inl (cB57, 6, .inl f58)), (a15, .inl (cB59, 6, .inl f60)), (a2, .inr (3, [.int k35, .int k36, .int k37, .ref a13, .ref a14, .ref a15, .ref a16])), (a16, .inl (cB61, 5, .inl f62)), (a1, .inr (4, [g23, g24, .int k25, .int k26, g27, .int k28, .int k29, g30, g31, .ref a7, .ref a8, .ref a9, .ref a10, .ref a11, .ref a12, g32, g33, g34])), (a5, .inr (3, [.int z605, .int z606, .int z3, .ref a17, .ref a18, .ref a19, .ref a20])), (a7, .inl (cB43, 5, .inl f44)), (a8, .inl (cB45, 6, .inl f46)), (a9, .inl (cB47, 6, .inl f48)), (a10, .inl (cB49, 6, .inl f50)), (a11, .inl (cB51, 6, .inl f52)), (a12, .inl (cB53, 6, .inl f54)), (a17, .inl (cB63, 6, .inl f607)), (a18, .inl (cB65, 6, .inl f608)), (a19, .inl (cB67, 6, .inl f609)), (a20, .inl (cB69, 5, .inl f610)), (a0, .inr (1, [.ref a5, .int z613, .int z604, .ref a6])), (a6, .inl (cB41, 6, .inl f614))] H := hP
              have hD : va_D A [(a13, .inl (cB55, 6, .inl f56)), (a14, .inl (cB57, 6, .inl f58)), (a15, .inl (cB59, 6, .inl f60)), (a2, .inr (3, [.int k35, .int k36, .int k37, .ref a13, .ref a14, .ref a15, .ref a16])), (a16, .inl (cB61, 5, .inl f62)), (a1, .inr (4, [g23, g24, .int k25, .int k26, g27, .int k28, .int k29, g30, g31, .ref a7, .ref a8, .ref a9, .ref a10, .ref a11, .ref a12, g32, g33, g34])), (a5, .inr (3, [.int z605, .int z606, .int z3, .ref a17, .ref a18, .ref a19, .ref a20])), (a7, .inl (cB43, 5, .inl f44)), (a8, .inl (cB45, 6, .inl f46)), (a9, .inl (cB47, 6, .inl f48)), (a10, .inl (cB49, 6, .inl f50)), (a11, .inl (cB51, 6, .inl f52)), (a12, .inl (cB53, 6, .inl f54)), (a17, .inl (cB63, 6, .inl f607)), (a18, .inl (cB65, 6, .inl f608)), (a19, .inl (cB67, 6, .inl f609)), (a20, .inl (cB69, 5, .inl f610)), (a0, .inr (1, [.ref a5, .int z613, .int z604, .ref a6])), (a6, .inl (cB41, 6, .inl f614))] := hD
              have hK : va_K (dC, dI) vwCl [(cB41, .int), (cB43, .int), (cB45, .int), (cB47, .int), (cB49, .int), (cB51, .int), (cB53, .int), (cB55, .int), (cB57, .int), (cB59, .int), (cB61, .int), (cB63, .int), (cB65, .int), (cB67, .int), (cB69, .int)] s := hK
              obtain ⟨z616, ez616⟩ : ∃ y : Int32, y = z590 + 1 := ⟨_, rfl⟩
              have tz616 : z616.toInt = z590.toInt + 1 := by rw [ez616, iadd_t (by simp only [ltv_1]; omega) (by simp only [ltv_1]; omega)]; simp only [ltv_1]
              refine lv_iinc (v := z616) (lv' := [(5, .int z616), (0, .ref a0), (1, .ref a1), (2, .ref a2), (3, .int k3), (4, .int k4)]) hx hb dX1_forecast_86 hl (k := 0) rfl (by rw [ez616]; rfl) (by decide) rfl (fun ls hl => ?_)
              refine lv_goto (tgt := 56) hx hb dX1_forecast_89 (by decide) ?_
              exact ih56 z616 z613 z604 f614 z605 z606 f607 f608 f609 f610 H locs ls (by first | omega | (simp only [ltv_0]; omega)) (by first | omega | (simp only [ltv_0]; omega)) (hP.sub (ws' := [(a0, .inr (1, [.ref a5, .int z613, .int z604, .ref a6])), (a1, .inr (4, [g23, g24, .int k25, .int k26, g27, .int k28, .int k29, g30, g31, .ref a7, .ref a8, .ref a9, .ref a10, .ref a11, .ref a12, g32, g33, g34])), (a6, .inl (cB41, 6, .inl f614)), (a7, .inl (cB43, 5, .inl f44)), (a8, .inl (cB45, 6, .inl f46)), (a9, .inl (cB47, 6, .inl f48)), (a10, .inl (cB49, 6, .inl f50)), (a11, .inl (cB51, 6, .inl f52)), (a12, .inl (cB53, 6, .inl f54)), (a5, .inr (3, [.int z605, .int z606, .int z3, .ref a17, .ref a18, .ref a19, .ref a20])), (a2, .inr (3, [.int k35, .int k36, .int k37, .ref a13, .ref a14, .ref a15, .ref a16])), (a17, .inl (cB63, 6, .inl f607)), (a18, .inl (cB65, 6, .inl f608)), (a19, .inl (cB67, 6, .inl f609)), (a20, .inl (cB69, 5, .inl f610)), (a13, .inl (cB55, 6, .inl f56)), (a14, .inl (cB57, 6, .inl f58)), (a15, .inl (cB59, 6, .inl f60)), (a16, .inl (cB61, 5, .inl f62))]) [17, 5, 18, 7, 8, 9, 10, 11, 12, 6, 3, 13, 14, 15, 16, 0, 1, 2, 4] rfl) (hD.sub (ws' := [(a0, .inr (1, [.ref a5, .int z613, .int z604, .ref a6])), (a1, .inr (4, [g23, g24, .int k25, .int k26, g27, .int k28, .int k29, g30, g31, .ref a7, .ref a8, .ref a9, .ref a10, .ref a11, .ref a12, g32, g33, g34])), (a6, .inl (cB41, 6, .inl f614)), (a7, .inl (cB43, 5, .inl f44)), (a8, .inl (cB45, 6, .inl f46)), (a9, .inl (cB47, 6, .inl f48)), (a10, .inl (cB49, 6, .inl f50)), (a11, .inl (cB51, 6, .inl f52)), (a12, .inl (cB53, 6, .inl f54)), (a5, .inr (3, [.int z605, .int z606, .int z3, .ref a17, .ref a18, .ref a19, .ref a20])), (a2, .inr (3, [.int k35, .int k36, .int k37, .ref a13, .ref a14, .ref a15, .ref a16])), (a17, .inl (cB63, 6, .inl f607)), (a18, .inl (cB65, 6, .inl f608)), (a19, .inl (cB67, 6, .inl f609)), (a20, .inl (cB69, 5, .inl f610)), (a13, .inl (cB55, 6, .inl f56)), (a14, .inl (cB57, 6, .inl f58)), (a15, .inl (cB59, 6, .inl f60)), (a16, .inl (cB61, 5, .inl f62))]) [17, 5, 18, 7, 8, 9, 10, 11, 12, 6, 3, 13, 14, 15, 16, 0, 1, 2, 4] (by decide) rfl) hS (lv_sub hl [0, 1, 2, 3, 4, 5] rfl)
        exact L56_600 63 (1) (0) (0) f315 z1 k3 f4 f5 f6 f7 H _ ls (by first | omega | (simp only [ltv_0, ltv_1]; omega)) (by first | omega | (simp only [ltv_0, ltv_1]; omega)) hP hD hS (lv_sub hl [0, 1, 2, 3, 4, 5] rfl)
      · simp only [fa_lt, fa_le, fa_eq, ltv_0, ltv_6] at c317
        refine lv_aload_n hx hb dX1_forecast_39 rfl (lv_at hl 1 rfl) ?_
        refine va_get (D := (dC, dI)) (ci := 1) (v := .ref a6) (C := RX1) (T := TX1) (N := 4) hx hb hts iX1_forecast_X1 hown hK hP 0 rfl rfl 3 (by decide) (hts (.fieldLink RX1 25 "HookPier$Days" "landedInDay" "[I") (List.mem_of_getElem? (i := 25) rfl)) (fun _ h9 => h9) rfl dX1_forecast_40 ?_
        refine lv_iload hx hb dX1_forecast_43 (lv_at hl 0 rfl) ?_
        refine lv_iconst (v := 0) hx hb dX1_forecast_45 (by decide) ?_
        refine va_iast hx hb hK hP hD hS 2 0 rfl rfl (vp_in_iff.mpr (by omega)) dX1_forecast_46 (fun H locs hP hD hS => ?_)
        have hP : va_P (dC, dI) vwCl [(a0, .inr (1, [.ref a5, .int 0, .int 0, .ref a6])), (a1, .inr (4, [g23, g24, .int k25, .int k26, g27, .int k28, .int k29, g30, g31, .ref a7, .ref a8, .ref a9, .ref a10, .ref a11, .ref a12, g32, g33, g34])), (a6, .inl (cB41, 6, .inl (upd f315 (z314 : Int32).toNatClampNeg 0))), (a7, .inl (cB43, 5, .inl f44)), (a8, .inl (cB45, 6, .inl f46)), (a9, .inl (cB47, 6, .inl f48)), (a10, .inl (cB49, 6, .inl f50)), (a11, .inl (cB51, 6, .inl f52)), (a12, .inl (cB53, 6, .inl f54)), (a5, .inr (3, [.int z1, .int k3, .int z3, .ref a17, .ref a18, .ref a19, .ref a20])), (a2, .inr (3, [.int k35, .int k36, .int k37, .ref a13, .ref a14, .ref a15, .ref a16])), (a17, .inl (cB63, 6, .inl f4)), (a18, .inl (cB65, 6, .inl f5)), (a19, .inl (cB67, 6, .inl f6)), (a20, .inl (cB69, 5, .inl f7)), (a13, .inl (cB55, 6, .inl f56)), (a14, .inl (cB57, 6, .inl f58)), (a15, .inl (cB59, 6, .inl f60)), (a16, .inl (cB61, 5, .inl f62))] H := hP
        have hD : va_D A [(a0, .inr (1, [.ref a5, .int 0, .int 0, .ref a6])), (a1, .inr (4, [g23, g24, .int k25, .int k26, g27, .int k28, .int k29, g30, g31, .ref a7, .ref a8, .ref a9, .ref a10, .ref a11, .ref a12, g32, g33, g34])), (a6, .inl (cB41, 6, .inl (upd f315 (z314 : Int32).toNatClampNeg 0))), (a7, .inl (cB43, 5, .inl f44)), (a8, .inl (cB45, 6, .inl f46)), (a9, .inl (cB47, 6, .inl f48)), (a10, .inl (cB49, 6, .inl f50)), (a11, .inl (cB51, 6, .inl f52)), (a12, .inl (cB53, 6, .inl f54)), (a5, .inr (3, [.int z1, .int k3, .int z3, .ref a17, .ref a18, .ref a19, .ref a20])), (a2, .inr (3, [.int k35, .int k36, .int k37, .ref a13, .ref a14, .ref a15, .ref a16])), (a17, .inl (cB63, 6, .inl f4)), (a18, .inl (cB65, 6, .inl f5)), (a19, .inl (cB67, 6, .inl f6)), (a20, .inl (cB69, 5, .inl f7)), (a13, .inl (cB55, 6, .inl f56)), (a14, .inl (cB57, 6, .inl f58)), (a15, .inl (cB59, 6, .inl f60)), (a16, .inl (cB61, 5, .inl f62))] := hD
        generalize upd f315 (z314 : Int32).toNatClampNeg 0 = f617 at hP hD
        obtain ⟨z618, ez618⟩ : ∃ y : Int32, y = z314 + 1 := ⟨_, rfl⟩
        have tz618 : z618.toInt = z314.toInt + 1 := by rw [ez618, iadd_t (by simp only [ltv_1]; omega) (by simp only [ltv_1]; omega)]; simp only [ltv_1]
        refine lv_iinc (v := z618) (lv' := [(5, .int z618), (0, .ref a0), (1, .ref a1), (2, .ref a2), (3, .int k3), (4, .int k4)]) hx hb dX1_forecast_47 hl (k := 0) rfl (by rw [ez618]; rfl) (by decide) rfl (fun ls hl => ?_)
        refine lv_goto (tgt := 29) hx hb dX1_forecast_50 (by decide) ?_
        exact ih29 z618 f617 H locs ls (by first | omega | (simp only [ltv_0]; omega)) (by first | omega | (simp only [ltv_0]; omega)) hP hD hS (lv_sub hl [0, 1, 2, 3, 4, 5] rfl)
  exact L29_316 7 (0) f42 H _ ls (by first | omega | (simp only [ltv_0]; omega)) (by first | omega | (simp only [ltv_0]; omega)) hP hD hS (lv_sub hl [0, 1, 2, 3, 4, 5] rfl)
