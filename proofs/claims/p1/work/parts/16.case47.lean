theorem led_gw : vL_led.all goodWord = true := by decide +kernel
theorem dX12_led_0 : decode cX12_led 0 = .ok (.aload_n 0, 1) := by decide +kernel
theorem dX12_led_1 : decode cX12_led 1 = .ok (.iconst 0, 1) := by decide +kernel
theorem dX12_led_10 : decode cX12_led 10 = .ok (.getfield 299, 3) := by decide +kernel
theorem dX12_led_13 : decode cX12_led 13 = .ok (.ifnull 44, 3) := by decide +kernel
theorem dX12_led_2 : decode cX12_led 2 = .ok (.putfield 36, 3) := by decide +kernel
theorem dX12_led_5 : decode cX12_led 5 = .ok (.iconst 0, 1) := by decide +kernel
theorem dX12_led_57 : decode cX12_led 57 = .ok (.aload_n 0, 1) := by decide +kernel
theorem dX12_led_58 : decode cX12_led 58 = .ok (.iconst 1, 1) := by decide +kernel
theorem dX12_led_59 : decode cX12_led 59 = .ok (.putfield 36, 3) := by decide +kernel
theorem dX12_led_6 : decode cX12_led 6 = .ok (.istore_n 2, 1) := by decide +kernel
theorem dX12_led_62 : decode cX12_led 62 = .ok (.iconst 0, 1) := by decide +kernel
theorem dX12_led_63 : decode cX12_led 63 = .ok (.ireturn, 1) := by decide +kernel
theorem dX12_led_7 : decode cX12_led 7 = .ok (.iconst 0, 1) := by decide +kernel
theorem dX12_led_8 : decode cX12_led 8 = .ok (.istore_n 3, 1) := by decide +kernel
theorem dX12_led_9 : decode cX12_led 9 = .ok (.aload_n 0, 1) := by decide +kernel
def vX12_led : List Cond := .code yX12_led cX12_led 4 (some .int) :: ([.fieldLink RX12 36 "HookPierModel" "thrown" "I", .fieldLink RX12 299 "HookPierModel" "pier" "LHookPierModel$Pier;"] ++ wsX120)
theorem iX12_led_X12 : ∀ w ∈ wsX120, w ∈ vX12_led := fun _ h => List.mem_cons_of_mem _ (List.mem_append_right _ h)
set_option maxHeartbeats 1000000 in
set_option maxRecDepth 100000 in
theorem kX12_led (l : Launch) (dC : Nat → ClassId) (dI : Nat → Nat → Nat) (a0 : Nat) (k1 : Int32) (g2 : Value) (g3 : Value) (g4 : Value) (g5 : Value) (g6 : Value) (g7 : Value) (g8 : Value) (g9 : Value) (g10 : Value) (g11 : Value) (g12 : Value) (g13 : Value) (g14 : Value) (g15 : Value) (g16 : Value) (g17 : Value) (g18 : Value) (g19 : Value) (g20 : Value) (g21 : Value) (g22 : Value) (g23 : Value) (g24 : Value) (g25 : Value) (g26 : Value) (g27 : Value) (g28 : Value) (g29 : Value) (g30 : Value) (sz : Nat) : Met l yX12_led vX12_led ({ frames := 0, cells := 0, slots := 0, locals := 0 }) (PC (dC, dI) [.ref a0, .int k1] sz [(a0, .inr (9, [g2, g3, g4, .null, g5, g6, g7, g8, g9, g10, g11, g12, g13, g14, g15, g16, g17, g18, g19, g20, g21, g22, g23, g24, g25, g26, g27, g28, g29, g30]))] []) (va_Qi (S := Unit) (fun (r : Int32) _ => r = 0) (fun _ t => BC (dC, dI) (va_A [(a0, .inr (9, [g2, g3, g4, .null, g5, g6, g7, g8, g9, g10, g11, g12, g13, g14, g15, g16, g17, g18, g19, g20, g21, g22, g23, g24, g25, g26, g27, g28, g29, g30]))] sz) [(a0, .inr (9, [.int 1, g3, g4, .null, g5, g6, g7, g8, g9, g10, g11, g12, g13, g14, g15, g16, g17, g18, g19, g20, g21, g22, g23, g24, g25, g26, g27, g28, g29, g30]))] [] t) (va_A [(a0, .inr (9, [g2, g3, g4, .null, g5, g6, g7, g8, g9, g10, g11, g12, g13, g14, g15, g16, g17, g18, g19, g20, g21, g22, g23, g24, g25, g26, g27, g28, g29, g30]))] sz)) 0 0 (va_A [(a0, .inr (9, [g2, g3, g4, .null, g5, g6, g7, g8, g9, g10, g11, g12, g13, g14, g15, g16, g17, g18, g19, g20, g21, g22, g23, g24, g25, g26, g27, g28, g29, g30]))] sz) := by
  refine Met.ofW (cc := cX12_led) (maxL := 4) (ret := (some .int)) (by decide) rfl ?_
  intro p e s m args below meth c s₁ B hml hv
  obtain ⟨rfl, hsz, hP, hK, hD0, hN⟩ := hv
  have hx := B.exec
  have hb := B.bytes
  have hr := B.returns
  have hts := atoms_spec (ws := vX12_led) B.pre
  have hown : s.vm.findClass RX12 = some m.cls := findClass_of_methodNamed B.named
  have hlocks := B.notSynchronized
  subst hsz
  have hD := hD0.self (sz := s.heap.size)
  generalize hAe : va_A [(a0, .inr (9, [g2, g3, g4, .null, g5, g6, g7, g8, g9, g10, g11, g12, g13, g14, g15, g16, g17, g18, g19, g20, g21, g22, g23, g24, g25, g26, g27, g28, g29, g30]))] s.heap.size = A at hD ⊢
  have hA : ∀ q : Nat, s.heap.size ≤ q → A q := fun q h => by rw [← hAe]; exact Or.inr h
  have hS : va_S A s.heap s.heap [] := va_S.rf
  have hP : va_P (dC, dI) vwCl [(a0, .inr (9, [g2, g3, g4, .null, g5, g6, g7, g8, g9, g10, g11, g12, g13, g14, g15, g16, g17, g18, g19, g20, g21, g22, g23, g24, g25, g26, g27, g28, g29, g30]))] s.heap := hP
  have hl := lv_entry ([.ref a0, .int k1]) (n := 4) (Nat.le_of_ble_eq_true rfl)
  rw [lg_entry_eq]
  generalize (lg_sl ([.ref a0, .int k1]) ++ List.replicate (4 - (lg_sl ([.ref a0, .int k1])).length) Slot.unset).toArray = ls at hl ⊢
  have hl : lv_has ls 4 [(0, .ref a0), (1, .int k1)] := hl
  refine lv_aload_n hx hb dX12_led_0 rfl (lv_at hl 0 rfl) ?_
  refine lv_iconst (v := 0) hx hb dX12_led_1 (by decide) ?_
  refine va_put (D := (dC, dI)) (ci := 9) (v := .int 0) (ty := .int) (C := RX12) (T := TX12) (N := 30) hx hb hts iX12_led_X12 tyX12 tyX12_ok nmX12 hown hK hP hD hS 0 rfl rfl 0 (by decide) (hts (.fieldLink RX12 36 "HookPierModel" "thrown" "I") (List.mem_of_getElem? (i := 1) rfl)) (fun _ h9 => h9) rfl (by decide +kernel) rfl rfl (Nat.le_of_ble_eq_true rfl) dX12_led_2 (fun H locs hP hD hS => ?_)
  have hP : va_P (dC, dI) vwCl [(a0, .inr (9, [.int 0, g3, g4, .null, g5, g6, g7, g8, g9, g10, g11, g12, g13, g14, g15, g16, g17, g18, g19, g20, g21, g22, g23, g24, g25, g26, g27, g28, g29, g30]))] H := hP
  have hD : va_D A [(a0, .inr (9, [.int 0, g3, g4, .null, g5, g6, g7, g8, g9, g10, g11, g12, g13, g14, g15, g16, g17, g18, g19, g20, g21, g22, g23, g24, g25, g26, g27, g28, g29, g30]))] := hD
  refine lv_iconst (v := 0) hx hb dX12_led_5 (by decide) ?_
  refine lv_istore_n (lv' := [(2, .int 0), (0, .ref a0), (1, .int k1)]) hx hb dX12_led_6 rfl hl (by decide) rfl (fun ls hl => ?_)
  refine lv_iconst (v := 0) hx hb dX12_led_7 (by decide) ?_
  refine lv_istore_n (lv' := [(3, .int 0), (2, .int 0), (0, .ref a0), (1, .int k1)]) hx hb dX12_led_8 rfl hl (by decide) rfl (fun ls hl => ?_)
  refine lv_aload_n hx hb dX12_led_9 rfl (lv_at hl 2 rfl) ?_
  refine va_get (D := (dC, dI)) (ci := 9) (v := .null) (C := RX12) (T := TX12) (N := 30) hx hb hts iX12_led_X12 hown hK hP 0 rfl rfl 3 (by decide) (hts (.fieldLink RX12 299 "HookPierModel" "pier" "LHookPierModel$Pier;") (List.mem_of_getElem? (i := 2) rfl)) (fun _ h9 => h9) rfl dX12_led_10 ?_
  refine lv_ifnullN (tgt := 57) hx hb dX12_led_13 (by decide) ?_
  refine lv_aload_n hx hb dX12_led_57 rfl (lv_at hl 2 rfl) ?_
  refine lv_iconst (v := 1) hx hb dX12_led_58 (by decide) ?_
  refine va_put (D := (dC, dI)) (ci := 9) (v := .int 1) (ty := .int) (C := RX12) (T := TX12) (N := 30) hx hb hts iX12_led_X12 tyX12 tyX12_ok nmX12 hown hK hP hD hS 0 rfl rfl 0 (by decide) (hts (.fieldLink RX12 36 "HookPierModel" "thrown" "I") (List.mem_of_getElem? (i := 1) rfl)) (fun _ h9 => h9) rfl (by decide +kernel) rfl rfl (Nat.le_of_ble_eq_true rfl) dX12_led_59 (fun H locs hP hD hS => ?_)
  have hP : va_P (dC, dI) vwCl [(a0, .inr (9, [.int 1, g3, g4, .null, g5, g6, g7, g8, g9, g10, g11, g12, g13, g14, g15, g16, g17, g18, g19, g20, g21, g22, g23, g24, g25, g26, g27, g28, g29, g30]))] H := hP
  have hD : va_D A [(a0, .inr (9, [.int 1, g3, g4, .null, g5, g6, g7, g8, g9, g10, g11, g12, g13, g14, g15, g16, g17, g18, g19, g20, g21, g22, g23, g24, g25, g26, g27, g28, g29, g30]))] := hD
  refine lv_iconst (v := 0) hx hb dX12_led_62 (by decide) ?_
  have hP9 := hP.sub (ws' := [(a0, .inr (9, [.int 1, g3, g4, .null, g5, g6, g7, g8, g9, g10, g11, g12, g13, g14, g15, g16, g17, g18, g19, g20, g21, g22, g23, g24, g25, g26, g27, g28, g29, g30]))]) [0] rfl
  have hD9 := hD.sub (ws' := [(a0, .inr (9, [.int 1, g3, g4, .null, g5, g6, g7, g8, g9, g10, g11, g12, g13, g14, g15, g16, g17, g18, g19, g20, g21, g22, g23, g24, g25, g26, g27, g28, g29, g30]))]) [0] (by decide) rfl
  have hK9 := hK.sub (tys' := []) [] rfl
  exact W.iret (v := 0) hx hb hr (fun t ht hW => ⟨⟨0, (), rfl, rfl, by rw [ht]; exact hP9, va_K.moved hW.alike hK9, hD9⟩, hS.F ht⟩) hS.2.2 dX12_led_63
theorem dX12_thrown_0 : decode cX12_thrown 0 = .ok (.aload_n 0, 1) := by decide +kernel
theorem dX12_thrown_1 : decode cX12_thrown 1 = .ok (.getfield 36, 3) := by decide +kernel
theorem dX12_thrown_4 : decode cX12_thrown 4 = .ok (.ireturn, 1) := by decide +kernel
def vX12_thrown : List Cond := .code yX12_thrown cX12_thrown 1 (some .int) :: ([.fieldLink RX12 36 "HookPierModel" "thrown" "I"] ++ wsX120)
theorem iX12_thrown_X12 : ∀ w ∈ wsX120, w ∈ vX12_thrown := fun _ h => List.mem_cons_of_mem _ (List.mem_append_right _ h)
set_option maxHeartbeats 1000000 in
set_option maxRecDepth 100000 in
theorem kX12_thrown (l : Launch) (dC : Nat → ClassId) (dI : Nat → Nat → Nat) (a0 : Nat) (g1 : Value) (g2 : Value) (g3 : Value) (g4 : Value) (g5 : Value) (g6 : Value) (g7 : Value) (g8 : Value) (g9 : Value) (g10 : Value) (g11 : Value) (g12 : Value) (g13 : Value) (g14 : Value) (g15 : Value) (g16 : Value) (g17 : Value) (g18 : Value) (g19 : Value) (g20 : Value) (g21 : Value) (g22 : Value) (g23 : Value) (g24 : Value) (g25 : Value) (g26 : Value) (g27 : Value) (g28 : Value) (g29 : Value) (sz : Nat) : Met l yX12_thrown vX12_thrown ({ frames := 0, cells := 0, slots := 0, locals := 0 }) (PC (dC, dI) [.ref a0] sz [(a0, .inr (9, [.int 1, g1, g2, g3, g4, g5, g6, g7, g8, g9, g10, g11, g12, g13, g14, g15, g16, g17, g18, g19, g20, g21, g22, g23, g24, g25, g26, g27, g28, g29]))] []) (va_Qi (S := Unit) (fun (r : Int32) _ => r = 1) (fun _ t => BC (dC, dI) (va_A [(a0, .inr (9, [.int 1, g1, g2, g3, g4, g5, g6, g7, g8, g9, g10, g11, g12, g13, g14, g15, g16, g17, g18, g19, g20, g21, g22, g23, g24, g25, g26, g27, g28, g29]))] sz) [(a0, .inr (9, [.int 1, g1, g2, g3, g4, g5, g6, g7, g8, g9, g10, g11, g12, g13, g14, g15, g16, g17, g18, g19, g20, g21, g22, g23, g24, g25, g26, g27, g28, g29]))] [] t) (va_A [(a0, .inr (9, [.int 1, g1, g2, g3, g4, g5, g6, g7, g8, g9, g10, g11, g12, g13, g14, g15, g16, g17, g18, g19, g20, g21, g22, g23, g24, g25, g26, g27, g28, g29]))] sz)) 0 0 (va_A [(a0, .inr (9, [.int 1, g1, g2, g3, g4, g5, g6, g7, g8, g9, g10, g11, g12, g13, g14, g15, g16, g17, g18, g19, g20, g21, g22, g23, g24, g25, g26, g27, g28, g29]))] sz) := by
  refine Met.ofW (cc := cX12_thrown) (maxL := 1) (ret := (some .int)) (by decide) rfl ?_
  intro p e s m args below meth c s₁ B hml hv
  obtain ⟨rfl, hsz, hP, hK, hD0, hN⟩ := hv
  have hx := B.exec
  have hb := B.bytes
  have hr := B.returns
  have hts := atoms_spec (ws := vX12_thrown) B.pre
  have hown : s.vm.findClass RX12 = some m.cls := findClass_of_methodNamed B.named
  have hlocks := B.notSynchronized
  subst hsz
  have hD := hD0.self (sz := s.heap.size)
  generalize hAe : va_A [(a0, .inr (9, [.int 1, g1, g2, g3, g4, g5, g6, g7, g8, g9, g10, g11, g12, g13, g14, g15, g16, g17, g18, g19, g20, g21, g22, g23, g24, g25, g26, g27, g28, g29]))] s.heap.size = A at hD ⊢
  have hA : ∀ q : Nat, s.heap.size ≤ q → A q := fun q h => by rw [← hAe]; exact Or.inr h
  have hS : va_S A s.heap s.heap [] := va_S.rf
  have hP : va_P (dC, dI) vwCl [(a0, .inr (9, [.int 1, g1, g2, g3, g4, g5, g6, g7, g8, g9, g10, g11, g12, g13, g14, g15, g16, g17, g18, g19, g20, g21, g22, g23, g24, g25, g26, g27, g28, g29]))] s.heap := hP
  have hl := lv_entry ([.ref a0]) (n := 1) (Nat.le_of_ble_eq_true rfl)
  rw [lg_entry_eq]
  generalize (lg_sl ([.ref a0]) ++ List.replicate (1 - (lg_sl ([.ref a0])).length) Slot.unset).toArray = ls at hl ⊢
  have hl : lv_has ls 1 [(0, .ref a0)] := hl
  refine lv_aload_n hx hb dX12_thrown_0 rfl (lv_at hl 0 rfl) ?_
  refine va_get (D := (dC, dI)) (ci := 9) (v := .int 1) (C := RX12) (T := TX12) (N := 30) hx hb hts iX12_thrown_X12 hown hK hP 0 rfl rfl 0 (by decide) (hts (.fieldLink RX12 36 "HookPierModel" "thrown" "I") (List.mem_of_getElem? (i := 1) rfl)) (fun _ h9 => h9) rfl dX12_thrown_1 ?_
  have hP9 := hP.sub (ws' := [(a0, .inr (9, [.int 1, g1, g2, g3, g4, g5, g6, g7, g8, g9, g10, g11, g12, g13, g14, g15, g16, g17, g18, g19, g20, g21, g22, g23, g24, g25, g26, g27, g28, g29]))]) [0] rfl
  have hD9 := hD.sub (ws' := [(a0, .inr (9, [.int 1, g1, g2, g3, g4, g5, g6, g7, g8, g9, g10, g11, g12, g13, g14, g15, g16, g17, g18, g19, g20, g21, g22, g23, g24, g25, g26, g27, g28, g29]))]) [0] (by decide) rfl
  have hK9 := hK.sub (tys' := []) [] rfl
  exact W.iret (v := 1) hx hb hr (fun t ht hW => ⟨⟨1, (), rfl, rfl, by rw [ht]; exact hP9, va_K.moved hW.alike hK9, hD9⟩, hS.F ht⟩) hS.2.2 dX12_thrown_4
theorem dL_law_1891 : decode cL_law 1891 = .ok (.aload_n 1, 1) := by decide +kernel
theorem dL_law_1892 : decode cL_law 1892 = .ok (.aload_n 0, 1) := by decide +kernel
theorem dL_law_1893 : decode cL_law 1893 = .ok (.iload 4, 2) := by decide +kernel
theorem dL_law_1895 : decode cL_law 1895 = .ok (.iconst 1, 1) := by decide +kernel
theorem dL_law_1896 : decode cL_law 1896 = .ok (.iadd, 1) := by decide +kernel
theorem dL_law_1897 : decode cL_law 1897 = .ok (.iaload, 1) := by decide +kernel
theorem dL_law_1898 : decode cL_law 1898 = .ok (.aload_n 3, 1) := by decide +kernel
theorem dL_law_1899 : decode cL_law 1899 = .ok (.invokestatic 220, 3) := by decide +kernel
theorem dL_law_1902 : decode cL_law 1902 = .ok (.istore 5, 2) := by decide +kernel
theorem dL_law_1904 : decode cL_law 1904 = .ok (.aload_n 2, 1) := by decide +kernel
theorem dL_law_1905 : decode cL_law 1905 = .ok (.aload_n 0, 1) := by decide +kernel
theorem dL_law_1906 : decode cL_law 1906 = .ok (.iload 4, 2) := by decide +kernel
theorem dL_law_1908 : decode cL_law 1908 = .ok (.iconst 1, 1) := by decide +kernel
theorem dL_law_1909 : decode cL_law 1909 = .ok (.iadd, 1) := by decide +kernel
theorem dL_law_1910 : decode cL_law 1910 = .ok (.iaload, 1) := by decide +kernel
theorem dL_law_1911 : decode cL_law 1911 = .ok (.invokevirtual 225, 3) := by decide +kernel
theorem dL_law_1914 : decode cL_law 1914 = .ok (.istore 6, 2) := by decide +kernel
theorem dL_law_1916 : decode cL_law 1916 = .ok (.aload_n 2, 1) := by decide +kernel
theorem dL_law_1917 : decode cL_law 1917 = .ok (.invokevirtual 226, 3) := by decide +kernel
theorem dL_law_1920 : decode cL_law 1920 = .ok (.iload 5, 2) := by decide +kernel
theorem dL_law_1922 : decode cL_law 1922 = .ok (.if_icmp .eq 5, 3) := by decide +kernel
theorem dL_law_1927 : decode cL_law 1927 = .ok (.iload 5, 2) := by decide +kernel
theorem dL_law_1929 : decode cL_law 1929 = .ok (.ifCond .ne 15, 3) := by decide +kernel
theorem dL_law_1944 : decode cL_law 1944 = .ok (.goto 41, 3) := by decide +kernel
def vL_47 : List Cond := ([.methodLink RL 220 yL_led, .static yL_led, .initialized RL, .methodLink RL 225 yX12_led, .instanceMethod yX12_led, .selects RX12 yX12_led yX12_led, .initialized RX12, .code yX12_led cX12_led 4 (some .int), .fieldLink RX12 36 "HookPierModel" "thrown" "I", .fieldLink RX12 299 "HookPierModel" "pier" "LHookPierModel$Pier;", .methodLink RL 226 yX12_thrown, .instanceMethod yX12_thrown, .selects RX12 yX12_thrown yX12_thrown, .code yX12_thrown cX12_thrown 1 (some .int)] ++ wsX120) ++ vL_led
set_option maxRecDepth 20000 in
theorem wL_47_c0 : GoodIn lw_tbl [.methodLink RL 220 yL_led, .static yL_led, .initialized RL, .methodLink RL 225 yX12_led, .instanceMethod yX12_led, .selects RX12 yX12_led yX12_led, .initialized RX12, .code yX12_led cX12_led 4 (some .int), .fieldLink RX12 36 "HookPierModel" "thrown" "I", .fieldLink RX12 299 "HookPierModel" "pier" "LHookPierModel$Pier;", .methodLink RL 226 yX12_thrown, .instanceMethod yX12_thrown, .selects RX12 yX12_thrown yX12_thrown, .code yX12_thrown cX12_thrown 1 (some .int)] := goodIn_r _ [1146, 1147, 105, 1960, 1961, 1962, 114, 1963, 1225, 1228, 1316, 1317, 1318, 1319] (by decide +kernel) (by decide +kernel)
theorem oxG_in : ∀ w ∈ oxG, w ∈ lw_tbl := by decide +kernel
set_option maxRecDepth 20000 in
theorem led_tb : GoodIn lw_tbl vL_led := goodIn_ca (goodIn_ca (goodIn_ca (goodIn_r (.codeWith yL_led cL_led 4 (some .int) [(0, 9, 12, 13)] :: [.classLink RL 13 "java/util/NoSuchElementException", .methodLink RL 7 yX10_led, .instanceMethod yX10_led, .selects RX10 yX10_led yX10_led, .initialized RX10, .code yX10_led cX10_led 4 (some .int), .classLink RX10 371 "java/util/NoSuchElementException", .initialized "java/util/NoSuchElementException", .fieldLink RX10 10 "HookPier" "plan" "LHookPier$Plan;", .fieldLink RX10 96 "HookPier$Plan" "answers" "I"]) [1148, 1149, 1150, 1151, 1152, 106, 1153, 1154, 129, 423, 167] (by decide +kernel) (by decide +kernel) : GoodIn lw_tbl (.codeWith yL_led cL_led 4 (some .int) [(0, 9, 12, 13)] :: [.classLink RL 13 "java/util/NoSuchElementException", .methodLink RL 7 yX10_led, .instanceMethod yX10_led, .selects RX10 yX10_led yX10_led, .initialized RX10, .code yX10_led cX10_led 4 (some .int), .classLink RX10 371 "java/util/NoSuchElementException", .initialized "java/util/NoSuchElementException", .fieldLink RX10 10 "HookPier" "plan" "LHookPier$Plan;", .fieldLink RX10 96 "HookPier$Plan" "answers" "I"])) lwt_X10) lwt_X6) (goodIn_sub oxG_in (by decide +kernel))
set_option maxRecDepth 20000 in
theorem wL_47 : ∀ w ∈ vL_47, w ∈ lw_tbl := fun w h => ((goodIn_app (goodIn_app wL_47_c0 lwt_X12) led_tb : GoodIn lw_tbl vL_47) w h).1
theorem iL_47_X12 : ∀ w ∈ wsX120, w ∈ vL_47 := fun _ h => List.mem_append_left _ (List.mem_append_right _ h)
set_option maxRecDepth 20000 in
theorem gL_47_0 : GoodIn vL_47 (wsV RL 225 RX12 yX12_led vX12_led) := goodIn_app (goodIn_r [.methodLink RL 225 yX12_led, .instanceMethod yX12_led, .selects RX12 yX12_led yX12_led, .initialized RX12] [3, 4, 5, 6] (by decide +kernel) (by decide +kernel)) (goodIn_ca (goodIn_r (.code yX12_led cX12_led 4 (some .int) :: [.fieldLink RX12 36 "HookPierModel" "thrown" "I", .fieldLink RX12 299 "HookPierModel" "pier" "LHookPierModel$Pier;"]) [7, 8, 9] (by decide +kernel) (by decide +kernel) : GoodIn vL_47 (.code yX12_led cX12_led 4 (some .int) :: [.fieldLink RX12 36 "HookPierModel" "thrown" "I", .fieldLink RX12 299 "HookPierModel" "pier" "LHookPierModel$Pier;"])) (goodIn_sub iL_47_X12 (by decide +kernel)))
set_option maxRecDepth 20000 in
theorem gL_47_1 : GoodIn vL_47 (wsV RL 226 RX12 yX12_thrown vX12_thrown) := goodIn_app (goodIn_r [.methodLink RL 226 yX12_thrown, .instanceMethod yX12_thrown, .selects RX12 yX12_thrown yX12_thrown, .initialized RX12] [10, 11, 12, 6] (by decide +kernel) (by decide +kernel)) (goodIn_ca (goodIn_r (.code yX12_thrown cX12_thrown 1 (some .int) :: [.fieldLink RX12 36 "HookPierModel" "thrown" "I"]) [13, 8] (by decide +kernel) (by decide +kernel) : GoodIn vL_47 (.code yX12_thrown cX12_thrown 1 (some .int) :: [.fieldLink RX12 36 "HookPierModel" "thrown" "I"])) (goodIn_sub iL_47_X12 (by decide +kernel)))
set_option maxRecDepth 20000 in
theorem gL_law_led : GoodIn vL_47 (va_wsS RL 220 yL_led vL_led) := goodIn_app (goodIn_of _ (by decide +kernel)) (goodIn_sub (fun _ h => List.mem_append_right _ h) led_gw)
set_option maxHeartbeats 2000000 in
set_option maxRecDepth 100000 in
theorem law_47 {p : Program} {e : Env} {s : State} {m : MethodId} {below : List Frame} {meth : Method} {c : Code} (l : Launch) (hl0 : l.stackTraces = false) {b : Nat} {xs : Nat → Int32} (C0 : lw_At p s m meth c b 6 xs) (hN : NW s) (hU : vx_Zq Bundle.tN "UNASSIGNED_STACK" Bundle.steD (fun q : Nat => s.heap.size ≤ q) s s.heap) (hV : vx_Zq Bundle.tN "SUPPRESSED_SENTINEL" Bundle.listD (fun q : Nat => s.heap.size ≤ q) s s.heap) (hLB : LB s) (dC : Nat → ClassId) (dI : Nat → Nat → Nat) (h0 h1 h2 h3 h4 h5 h6 h7 h8 h9 m0 m1 m2 m3 m4 m5 m6 m7 m8 n0 n1 n2 n3 n4 n5 n6 n7 n8 r7 r8 o0 o1 o2 o3 u0 u1 g0 g1 v0 v1 v2 v3 v4 v5 q9 : Nat) (cT cU : ClassId) (H : Heap) (locs : List Loc) (hK : va_K (dC, dI) vwCl [(cT, .byte), (cU, .byte)] s) (hP : va_P (dC, dI) vwCl [(h0, .inr (7, [.ref h1, .ref h2, .ref h3, .ref h4, .ref h5, .ref h7, .ref h8, .ref h9, .int 0, .int 0])), (h1, .inr (4, [.int 0, .int 0, .int 0, .int 0, .int 0, .int 0, .int 0, .int 0, .int (-1), .ref m0, .ref m1, .ref m2, .ref m3, .ref m4, .ref m5, .ref m6, .ref m7, .ref m8])), (h2, .inr (4, [.int 0, .int 0, .int 0, .int 0, .int 0, .int 0, .int 0, .int 0, .int (-1), .ref n0, .ref n1, .ref n2, .ref n3, .ref n4, .ref n5, .ref n6, .ref n7, .ref n8])), (h3, .inr (5, [.ref h6, .int 0, .int 0, .int 0, .int 0, .int 0, .int 0, .ref r7, .ref r8, .int 0, .int 0, .int (-1)])), (h6, .inl (cT, 900, .inl (fun _ => 0))), (h4, .inr (3, [.int 0, .int 0, .int 0, .ref o0, .ref o1, .ref o2, .ref o3])), (h5, .inr (2, [.ref u0, .ref u1, .int 0, .int 0, .int 0])), (g0, .inr (9, [.int 0, .int 0, .int (-1), .null, .null, .ref g1, .int 0, .int 0, .int 0, .int 0, .int 0, .int 0, .int 0, .int 0, .long 0, .ref v0, .ref v1, .ref v2, .ref v3, .int 0, .int 0, .ref v4, .ref v5, .int 0, .int 0, .int 0, .int 0, .int 0, .int 0, .int 0])), (g1, .inl (cU, 900, .inl (fun _ => 0)))] H) (hD : va_D (fun q : Nat => s.heap.size ≤ q) [(h0, .inr (7, [.ref h1, .ref h2, .ref h3, .ref h4, .ref h5, .ref h7, .ref h8, .ref h9, .int 0, .int 0])), (h1, .inr (4, [.int 0, .int 0, .int 0, .int 0, .int 0, .int 0, .int 0, .int 0, .int (-1), .ref m0, .ref m1, .ref m2, .ref m3, .ref m4, .ref m5, .ref m6, .ref m7, .ref m8])), (h2, .inr (4, [.int 0, .int 0, .int 0, .int 0, .int 0, .int 0, .int 0, .int 0, .int (-1), .ref n0, .ref n1, .ref n2, .ref n3, .ref n4, .ref n5, .ref n6, .ref n7, .ref n8])), (h3, .inr (5, [.ref h6, .int 0, .int 0, .int 0, .int 0, .int 0, .int 0, .ref r7, .ref r8, .int 0, .int 0, .int (-1)])), (h6, .inl (cT, 900, .inl (fun _ => 0))), (h4, .inr (3, [.int 0, .int 0, .int 0, .ref o0, .ref o1, .ref o2, .ref o3])), (h5, .inr (2, [.ref u0, .ref u1, .int 0, .int 0, .int 0])), (g0, .inr (9, [.int 0, .int 0, .int (-1), .null, .null, .ref g1, .int 0, .int 0, .int 0, .int 0, .int 0, .int 0, .int 0, .int 0, .long 0, .ref v0, .ref v1, .ref v2, .ref v3, .int 0, .int 0, .ref v4, .ref v5, .int 0, .int 0, .int 0, .int 0, .int 0, .int 0, .int 0])), (g1, .inl (cU, 900, .inl (fun _ => 0)))]) (hS : va_S (fun q : Nat => s.heap.size ≤ q) s.heap H locs) (ls : Array Slot) (hl : lv_has ls 7 [(4, .int 0), (3, .ref q9), (2, .ref g0), (1, .ref h0), (0, .ref b)]) : W p l e room_1 s m #[Value.ref b] below meth c H locs 149 3548 (lw_Z below #[Value.ref b] s) (F0 m 1891 ls []) := by
  have hC0 := C0
  obtain ⟨hx, hb, hr, hml, hown, htb, hX, hbl, hlocks, hgv⟩ := C0
  have hown : s.vm.findClass RL = some m.cls := hown
  have hA : ∀ q : Nat, s.heap.size ≤ q → (fun q : Nat => s.heap.size ≤ q) q := fun _ h => h
  have hbA : ¬ (fun q : Nat => s.heap.size ≤ q) b := Nat.not_le.mpr hbl
  have hts : ∀ w ∈ vL_47, w.before #[Value.ref b] s = true := fun w h => htb w (wL_47 w h)
  obtain ⟨y1, ey1⟩ : ∃ y, xs (1 : Int32).toNatClampNeg = y := ⟨_, rfl⟩
  obtain ⟨y2, ey2⟩ : ∃ y, xs (2 : Int32).toNatClampNeg = y := ⟨_, rfl⟩
  obtain ⟨y3, ey3⟩ : ∃ y, xs (3 : Int32).toNatClampNeg = y := ⟨_, rfl⟩
  obtain ⟨y4, ey4⟩ : ∃ y, xs (4 : Int32).toNatClampNeg = y := ⟨_, rfl⟩
  obtain ⟨y5, ey5⟩ : ∃ y, xs (5 : Int32).toNatClampNeg = y := ⟨_, rfl⟩
  refine lv_aload_n hx hb dL_law_1891 rfl (lv_at hl 3 rfl) ?_
  refine lv_aload_n hx hb dL_law_1892 rfl (lv_at hl 4 rfl) ?_
  refine lv_iload hx hb dL_law_1893 (lv_at hl 0 rfl) ?_
  refine lv_iconst (v := 1) hx hb dL_law_1895 (by decide) ?_
  refine lv_iadd hx hb dL_law_1896 ?_
  refine lv_topi (fun z1 ez1 => ?_)
  obtain rfl : z1 = 1 := ez1.trans (by decide)
  refine va_sld hx hb hX hbl hbA hS (by unfold vp_in; decide) dL_law_1897 ?_
  refine lv_topi (fun z2 ez2 => ?_)
  obtain rfl : y1 = z2 := (ez2.trans ey1).symm
  refine lv_aload_n hx hb dL_law_1898 rfl (lv_at hl 1 rfl) ?_
  have hF := va_free (wc := [(h0, .inr (7, [.ref h1, .ref h2, .ref h3, .ref h4, .ref h5, .ref h7, .ref h8, .ref h9, .int 0, .int 0])), (h1, .inr (4, [.int 0, .int 0, .int 0, .int 0, .int 0, .int 0, .int 0, .int 0, .int (-1), .ref m0, .ref m1, .ref m2, .ref m3, .ref m4, .ref m5, .ref m6, .ref m7, .ref m8]))]) hD hS hA [0, 1] rfl
  refine cl_i (wc := [(h0, .inr (7, [.ref h1, .ref h2, .ref h3, .ref h4, .ref h5, .ref h7, .ref h8, .ref h9, .int 0, .int 0])), (h1, .inr (4, [.int 0, .int 0, .int 0, .int 0, .int 0, .int 0, .int 0, .int 0, .int (-1), .ref m0, .ref m1, .ref m2, .ref m3, .ref m4, .ref m5, .ref m6, .ref m7, .ref m8]))]) (wr := [(h2, .inr (4, [.int 0, .int 0, .int 0, .int 0, .int 0, .int 0, .int 0, .int 0, .int (-1), .ref n0, .ref n1, .ref n2, .ref n3, .ref n4, .ref n5, .ref n6, .ref n7, .ref n8])), (h3, .inr (5, [.ref h6, .int 0, .int 0, .int 0, .int 0, .int 0, .int 0, .ref r7, .ref r8, .int 0, .int 0, .int (-1)])), (h6, .inl (cT, 900, .inl (fun _ => 0))), (h4, .inr (3, [.int 0, .int 0, .int 0, .ref o0, .ref o1, .ref o2, .ref o3])), (h5, .inr (2, [.ref u0, .ref u1, .int 0, .int 0, .int 0])), (g0, .inr (9, [.int 0, .int 0, .int (-1), .null, .null, .ref g1, .int 0, .int 0, .int 0, .int 0, .int 0, .int 0, .int 0, .int 0, .long 0, .ref v0, .ref v1, .ref v2, .ref v3, .int 0, .int 0, .ref v4, .ref v5, .int 0, .int 0, .int 0, .int 0, .int 0, .int 0, .int 0])), (g1, .inl (cU, 900, .inl (fun _ => 0)))]) (vx_runSW (As := [.ref h0, .int y1, .ref q9]) (rest := []) ⟨hx, hb, hml, hown, hts⟩ (kL_led l hl0 dC dI h0 y1 h1 (.ref h2) (.ref h3) (.ref h4) (.ref h5) (.ref h7) (.ref h8) (.ref h9) (.int 0) (.int 0) (.int 0) (.int 0) (.int 0) (.int 0) (.int 0) (.int 0) (.int 0) (.int (-1)) (.ref m0) (.ref m1) (.ref m2) (.ref m3) (.ref m4) (.ref m5) (.ref m6) (.ref m7) (.ref m8) q9 H.size) (vx_cwSW 3 hts gL_law_led rfl rfl rfl (by decide +kernel) ⟨Nat.le_of_ble_eq_true rfl, Nat.le_of_ble_eq_true rfl⟩) (PSZ (hP.sub (ws' := [(h0, .inr (7, [.ref h1, .ref h2, .ref h3, .ref h4, .ref h5, .ref h7, .ref h8, .ref h9, .int 0, .int 0])), (h1, .inr (4, [.int 0, .int 0, .int 0, .int 0, .int 0, .int 0, .int 0, .int 0, .int (-1), .ref m0, .ref m1, .ref m2, .ref m3, .ref m4, .ref m5, .ref m6, .ref m7, .ref m8]))]) [0, 1] rfl) (hK.sub (tys' := []) [] rfl) (hD.sub (ws' := [(h0, .inr (7, [.ref h1, .ref h2, .ref h3, .ref h4, .ref h5, .ref h7, .ref h8, .ref h9, .int 0, .int 0])), (h1, .inr (4, [.int 0, .int 0, .int 0, .int 0, .int 0, .int 0, .int 0, .int 0, .int (-1), .ref m0, .ref m1, .ref m2, .ref m3, .ref m4, .ref m5, .ref m6, .ref m7, .ref m8]))]) [0, 1] (by decide) rfl) hN hF (vx_Zq.kept hU hS.2.1) (vx_Zq.kept hV hS.2.1) hLB) rfl rfl hl.1 rfl (lv_room (Nat.le_of_ble_eq_true rfl)) dL_law_1899 ⟨Nat.le_of_ble_eq_true rfl, Nat.le_of_ble_eq_true rfl⟩) hP hD hK hS hA [0, 1] [2, 3, 4, 5, 6, 7, 8] rfl rfl (by decide) (by decide) (fun z _u H locs hw hP hD hK hS => ?_)
  have hP : va_P (dC, dI) vwCl [(h2, .inr (4, [.int 0, .int 0, .int 0, .int 0, .int 0, .int 0, .int 0, .int 0, .int (-1), .ref n0, .ref n1, .ref n2, .ref n3, .ref n4, .ref n5, .ref n6, .ref n7, .ref n8])), (h3, .inr (5, [.ref h6, .int 0, .int 0, .int 0, .int 0, .int 0, .int 0, .ref r7, .ref r8, .int 0, .int 0, .int (-1)])), (h6, .inl (cT, 900, .inl (fun _ => 0))), (h4, .inr (3, [.int 0, .int 0, .int 0, .ref o0, .ref o1, .ref o2, .ref o3])), (h5, .inr (2, [.ref u0, .ref u1, .int 0, .int 0, .int 0])), (g0, .inr (9, [.int 0, .int 0, .int (-1), .null, .null, .ref g1, .int 0, .int 0, .int 0, .int 0, .int 0, .int 0, .int 0, .int 0, .long 0, .ref v0, .ref v1, .ref v2, .ref v3, .int 0, .int 0, .ref v4, .ref v5, .int 0, .int 0, .int 0, .int 0, .int 0, .int 0, .int 0])), (g1, .inl (cU, 900, .inl (fun _ => 0)))] H := hP
  have hD : va_D (fun q : Nat => s.heap.size ≤ q) [(h2, .inr (4, [.int 0, .int 0, .int 0, .int 0, .int 0, .int 0, .int 0, .int 0, .int (-1), .ref n0, .ref n1, .ref n2, .ref n3, .ref n4, .ref n5, .ref n6, .ref n7, .ref n8])), (h3, .inr (5, [.ref h6, .int 0, .int 0, .int 0, .int 0, .int 0, .int 0, .ref r7, .ref r8, .int 0, .int 0, .int (-1)])), (h6, .inl (cT, 900, .inl (fun _ => 0))), (h4, .inr (3, [.int 0, .int 0, .int 0, .ref o0, .ref o1, .ref o2, .ref o3])), (h5, .inr (2, [.ref u0, .ref u1, .int 0, .int 0, .int 0])), (g0, .inr (9, [.int 0, .int 0, .int (-1), .null, .null, .ref g1, .int 0, .int 0, .int 0, .int 0, .int 0, .int 0, .int 0, .int 0, .long 0, .ref v0, .ref v1, .ref v2, .ref v3, .int 0, .int 0, .ref v4, .ref v5, .int 0, .int 0, .int 0, .int 0, .int 0, .int 0, .int 0])), (g1, .inl (cU, 900, .inl (fun _ => 0)))] := hD
  have hK : va_K (dC, dI) vwCl [(cT, .byte), (cU, .byte)] s := hK
  refine W.widen (k := 150) (n := 3554) (Nat.le_of_ble_eq_true rfl) (Nat.le_of_ble_eq_true rfl) ?_
  obtain rfl : z = 1 := hw
  refine lv_istore (lv' := [(5, .int 1), (4, .int 0), (3, .ref q9), (2, .ref g0), (1, .ref h0), (0, .ref b)]) hx hb dL_law_1902 hl (by decide) rfl (fun ls hl => ?_)
  refine lv_aload_n hx hb dL_law_1904 rfl (lv_at hl 3 rfl) ?_
  refine lv_aload_n hx hb dL_law_1905 rfl (lv_at hl 5 rfl) ?_
  refine lv_iload hx hb dL_law_1906 (lv_at hl 1 rfl) ?_
  refine lv_iconst (v := 1) hx hb dL_law_1908 (by decide) ?_
  refine lv_iadd hx hb dL_law_1909 ?_
  refine lv_topi (fun z3 ez3 => ?_)
  obtain rfl : z3 = 1 := ez3.trans (by decide)
  refine va_sld hx hb hX hbl hbA hS (by unfold vp_in; decide) dL_law_1910 ?_
  refine lv_topi (fun z4 ez4 => ?_)
  obtain rfl : y1 = z4 := (ez4.trans ey1).symm
  refine cl_i (wc := [(g0, .inr (9, [.int 0, .int 0, .int (-1), .null, .null, .ref g1, .int 0, .int 0, .int 0, .int 0, .int 0, .int 0, .int 0, .int 0, .long 0, .ref v0, .ref v1, .ref v2, .ref v3, .int 0, .int 0, .ref v4, .ref v5, .int 0, .int 0, .int 0, .int 0, .int 0, .int 0, .int 0]))]) (wr := [(h2, .inr (4, [.int 0, .int 0, .int 0, .int 0, .int 0, .int 0, .int 0, .int 0, .int (-1), .ref n0, .ref n1, .ref n2, .ref n3, .ref n4, .ref n5, .ref n6, .ref n7, .ref n8])), (h3, .inr (5, [.ref h6, .int 0, .int 0, .int 0, .int 0, .int 0, .int 0, .ref r7, .ref r8, .int 0, .int 0, .int (-1)])), (h6, .inl (cT, 900, .inl (fun _ => 0))), (h4, .inr (3, [.int 0, .int 0, .int 0, .ref o0, .ref o1, .ref o2, .ref o3])), (h5, .inr (2, [.ref u0, .ref u1, .int 0, .int 0, .int 0])), (g1, .inl (cU, 900, .inl (fun _ => 0)))]) (va_runV (As := [.int y1]) (rest := []) ⟨hx, hb, hml, hown, hts⟩ (kX12_led l dC dI g0 y1 (.int 0) (.int 0) (.int (-1)) (.null) (.ref g1) (.int 0) (.int 0) (.int 0) (.int 0) (.int 0) (.int 0) (.int 0) (.int 0) (.long 0) (.ref v0) (.ref v1) (.ref v2) (.ref v3) (.int 0) (.int 0) (.ref v4) (.ref v5) (.int 0) (.int 0) (.int 0) (.int 0) (.int 0) (.int 0) (.int 0) H.size) (cwV 1 hts gL_47_0 rfl rfl rfl (by decide +kernel) ⟨Nat.le_of_ble_eq_true rfl, Nat.le_of_ble_eq_true rfl⟩) (PV (hP.sub (ws' := [(g0, .inr (9, [.int 0, .int 0, .int (-1), .null, .null, .ref g1, .int 0, .int 0, .int 0, .int 0, .int 0, .int 0, .int 0, .int 0, .long 0, .ref v0, .ref v1, .ref v2, .ref v3, .int 0, .int 0, .ref v4, .ref v5, .int 0, .int 0, .int 0, .int 0, .int 0, .int 0, .int 0]))]) [5] rfl) (hK.sub (tys' := []) [] rfl) (hD.sub (ws' := [(g0, .inr (9, [.int 0, .int 0, .int (-1), .null, .null, .ref g1, .int 0, .int 0, .int 0, .int 0, .int 0, .int 0, .int 0, .int 0, .long 0, .ref v0, .ref v1, .ref v2, .ref v3, .int 0, .int 0, .ref v4, .ref v5, .int 0, .int 0, .int 0, .int 0, .int 0, .int 0, .int 0]))]) [5] (by decide) rfl) hN 0 rfl rfl) rfl rfl hl.1 rfl (lv_room (Nat.le_of_ble_eq_true rfl)) dL_law_1911 ⟨Nat.le_of_ble_eq_true rfl, Nat.le_of_ble_eq_true rfl⟩) hP hD hK hS hA [5] [0, 1, 2, 3, 4, 6] rfl rfl (by decide) (by decide) (fun z5 _u H locs hw hP hD hK hS => ?_)
  have hP : va_P (dC, dI) vwCl [(h2, .inr (4, [.int 0, .int 0, .int 0, .int 0, .int 0, .int 0, .int 0, .int 0, .int (-1), .ref n0, .ref n1, .ref n2, .ref n3, .ref n4, .ref n5, .ref n6, .ref n7, .ref n8])), (h3, .inr (5, [.ref h6, .int 0, .int 0, .int 0, .int 0, .int 0, .int 0, .ref r7, .ref r8, .int 0, .int 0, .int (-1)])), (h6, .inl (cT, 900, .inl (fun _ => 0))), (h4, .inr (3, [.int 0, .int 0, .int 0, .ref o0, .ref o1, .ref o2, .ref o3])), (h5, .inr (2, [.ref u0, .ref u1, .int 0, .int 0, .int 0])), (g1, .inl (cU, 900, .inl (fun _ => 0))), (g0, .inr (9, [.int 1, .int 0, .int (-1), .null, .null, .ref g1, .int 0, .int 0, .int 0, .int 0, .int 0, .int 0, .int 0, .int 0, .long 0, .ref v0, .ref v1, .ref v2, .ref v3, .int 0, .int 0, .ref v4, .ref v5, .int 0, .int 0, .int 0, .int 0, .int 0, .int 0, .int 0]))] H := hP
  have hD : va_D (fun q : Nat => s.heap.size ≤ q) [(h2, .inr (4, [.int 0, .int 0, .int 0, .int 0, .int 0, .int 0, .int 0, .int 0, .int (-1), .ref n0, .ref n1, .ref n2, .ref n3, .ref n4, .ref n5, .ref n6, .ref n7, .ref n8])), (h3, .inr (5, [.ref h6, .int 0, .int 0, .int 0, .int 0, .int 0, .int 0, .ref r7, .ref r8, .int 0, .int 0, .int (-1)])), (h6, .inl (cT, 900, .inl (fun _ => 0))), (h4, .inr (3, [.int 0, .int 0, .int 0, .ref o0, .ref o1, .ref o2, .ref o3])), (h5, .inr (2, [.ref u0, .ref u1, .int 0, .int 0, .int 0])), (g1, .inl (cU, 900, .inl (fun _ => 0))), (g0, .inr (9, [.int 1, .int 0, .int (-1), .null, .null, .ref g1, .int 0, .int 0, .int 0, .int 0, .int 0, .int 0, .int 0, .int 0, .long 0, .ref v0, .ref v1, .ref v2, .ref v3, .int 0, .int 0, .ref v4, .ref v5, .int 0, .int 0, .int 0, .int 0, .int 0, .int 0, .int 0]))] := hD
  have hK : va_K (dC, dI) vwCl [(cT, .byte), (cU, .byte)] s := hK
  obtain rfl : z5 = 0 := hw
  refine lv_istore (lv' := [(6, .int 0), (5, .int 1), (4, .int 0), (3, .ref q9), (2, .ref g0), (1, .ref h0), (0, .ref b)]) hx hb dL_law_1914 hl (by decide) rfl (fun ls hl => ?_)
  refine lv_aload_n hx hb dL_law_1916 rfl (lv_at hl 4 rfl) ?_
  refine cl_i (wc := [(g0, .inr (9, [.int 1, .int 0, .int (-1), .null, .null, .ref g1, .int 0, .int 0, .int 0, .int 0, .int 0, .int 0, .int 0, .int 0, .long 0, .ref v0, .ref v1, .ref v2, .ref v3, .int 0, .int 0, .ref v4, .ref v5, .int 0, .int 0, .int 0, .int 0, .int 0, .int 0, .int 0]))]) (wr := [(h2, .inr (4, [.int 0, .int 0, .int 0, .int 0, .int 0, .int 0, .int 0, .int 0, .int (-1), .ref n0, .ref n1, .ref n2, .ref n3, .ref n4, .ref n5, .ref n6, .ref n7, .ref n8])), (h3, .inr (5, [.ref h6, .int 0, .int 0, .int 0, .int 0, .int 0, .int 0, .ref r7, .ref r8, .int 0, .int 0, .int (-1)])), (h6, .inl (cT, 900, .inl (fun _ => 0))), (h4, .inr (3, [.int 0, .int 0, .int 0, .ref o0, .ref o1, .ref o2, .ref o3])), (h5, .inr (2, [.ref u0, .ref u1, .int 0, .int 0, .int 0])), (g1, .inl (cU, 900, .inl (fun _ => 0)))]) (va_runV (As := []) (rest := []) ⟨hx, hb, hml, hown, hts⟩ (kX12_thrown l dC dI g0 (.int 0) (.int (-1)) (.null) (.null) (.ref g1) (.int 0) (.int 0) (.int 0) (.int 0) (.int 0) (.int 0) (.int 0) (.int 0) (.long 0) (.ref v0) (.ref v1) (.ref v2) (.ref v3) (.int 0) (.int 0) (.ref v4) (.ref v5) (.int 0) (.int 0) (.int 0) (.int 0) (.int 0) (.int 0) (.int 0) H.size) (cwV 0 hts gL_47_1 rfl rfl rfl (by decide +kernel) ⟨Nat.le_of_ble_eq_true rfl, Nat.le_of_ble_eq_true rfl⟩) (PV (hP.sub (ws' := [(g0, .inr (9, [.int 1, .int 0, .int (-1), .null, .null, .ref g1, .int 0, .int 0, .int 0, .int 0, .int 0, .int 0, .int 0, .int 0, .long 0, .ref v0, .ref v1, .ref v2, .ref v3, .int 0, .int 0, .ref v4, .ref v5, .int 0, .int 0, .int 0, .int 0, .int 0, .int 0, .int 0]))]) [6] rfl) (hK.sub (tys' := []) [] rfl) (hD.sub (ws' := [(g0, .inr (9, [.int 1, .int 0, .int (-1), .null, .null, .ref g1, .int 0, .int 0, .int 0, .int 0, .int 0, .int 0, .int 0, .int 0, .long 0, .ref v0, .ref v1, .ref v2, .ref v3, .int 0, .int 0, .ref v4, .ref v5, .int 0, .int 0, .int 0, .int 0, .int 0, .int 0, .int 0]))]) [6] (by decide) rfl) hN 0 rfl rfl) rfl rfl hl.1 rfl (lv_room (Nat.le_of_ble_eq_true rfl)) dL_law_1917 ⟨Nat.le_of_ble_eq_true rfl, Nat.le_of_ble_eq_true rfl⟩) hP hD hK hS hA [6] [0, 1, 2, 3, 4, 5] rfl rfl (by decide) (by decide) (fun z6 _u H locs hw hP hD hK hS => ?_)
  have hP : va_P (dC, dI) vwCl [(h2, .inr (4, [.int 0, .int 0, .int 0, .int 0, .int 0, .int 0, .int 0, .int 0, .int (-1), .ref n0, .ref n1, .ref n2, .ref n3, .ref n4, .ref n5, .ref n6, .ref n7, .ref n8])), (h3, .inr (5, [.ref h6, .int 0, .int 0, .int 0, .int 0, .int 0, .int 0, .ref r7, .ref r8, .int 0, .int 0, .int (-1)])), (h6, .inl (cT, 900, .inl (fun _ => 0))), (h4, .inr (3, [.int 0, .int 0, .int 0, .ref o0, .ref o1, .ref o2, .ref o3])), (h5, .inr (2, [.ref u0, .ref u1, .int 0, .int 0, .int 0])), (g1, .inl (cU, 900, .inl (fun _ => 0))), (g0, .inr (9, [.int 1, .int 0, .int (-1), .null, .null, .ref g1, .int 0, .int 0, .int 0, .int 0, .int 0, .int 0, .int 0, .int 0, .long 0, .ref v0, .ref v1, .ref v2, .ref v3, .int 0, .int 0, .ref v4, .ref v5, .int 0, .int 0, .int 0, .int 0, .int 0, .int 0, .int 0]))] H := hP
  have hD : va_D (fun q : Nat => s.heap.size ≤ q) [(h2, .inr (4, [.int 0, .int 0, .int 0, .int 0, .int 0, .int 0, .int 0, .int 0, .int (-1), .ref n0, .ref n1, .ref n2, .ref n3, .ref n4, .ref n5, .ref n6, .ref n7, .ref n8])), (h3, .inr (5, [.ref h6, .int 0, .int 0, .int 0, .int 0, .int 0, .int 0, .ref r7, .ref r8, .int 0, .int 0, .int (-1)])), (h6, .inl (cT, 900, .inl (fun _ => 0))), (h4, .inr (3, [.int 0, .int 0, .int 0, .ref o0, .ref o1, .ref o2, .ref o3])), (h5, .inr (2, [.ref u0, .ref u1, .int 0, .int 0, .int 0])), (g1, .inl (cU, 900, .inl (fun _ => 0))), (g0, .inr (9, [.int 1, .int 0, .int (-1), .null, .null, .ref g1, .int 0, .int 0, .int 0, .int 0, .int 0, .int 0, .int 0, .int 0, .long 0, .ref v0, .ref v1, .ref v2, .ref v3, .int 0, .int 0, .ref v4, .ref v5, .int 0, .int 0, .int 0, .int 0, .int 0, .int 0, .int 0]))] := hD
  have hK : va_K (dC, dI) vwCl [(cT, .byte), (cU, .byte)] s := hK
  obtain rfl : z6 = 1 := hw
  refine lv_iload hx hb dL_law_1920 (lv_at hl 1 rfl) ?_
  refine lv_icmp_eq (tgt := 1927) hx hb dL_law_1922 (by decide) (fun _ => ?_) (fun c7 => absurd c7 (by decide))
  refine lv_iload hx hb dL_law_1927 (lv_at hl 1 rfl) ?_
  refine lv_if_ne (tgt := 1944) hx hb dL_law_1929 (by decide) (fun _ => ?_) (fun c8 => absurd c8 (by decide))
  refine lv_goto (tgt := 1985) hx hb dL_law_1944 (by decide) ?_
  exact law_end l hC0 H locs hS (Nat.le_of_ble_eq_true rfl) (Nat.le_of_ble_eq_true rfl) ls (lv_sub hl [6, 2] rfl)
