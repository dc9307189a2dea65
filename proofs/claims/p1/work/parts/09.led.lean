def ledB : List Cond := (vx_atS RX10 375 "java/util/NoSuchElementException" ["java/lang/RuntimeException", "java/lang/Exception"]).filter (fun w => !goodWord w)
def ledCD : Cond → Bool
  | .castable _ _ => true
  | .declares _ => true
  | _ => false
theorem ledB_cd : ledB.all ledCD = true := by decide +kernel
theorem ledB_tab : ledB.all (fun w => w.onTables) = true := by decide +kernel
theorem led_warm {w : Cond} (hn : ledCD w = true) {s U : State} (hW : s.WarmedH U.vm) (h : va_Nw w s) : va_Nw w U := by
  cases w <;> first
    | exact va_Nw.warmC hW h
    | exact va_Nw.warmD hW h
    | exact absurd hn (by simp [ledCD])
/-- words of the exception's class that a word list cannot hold -/
def LB (U : State) : Prop := ∀ w ∈ ledB, va_Nw w U
theorem LB.warm {s U : State} (hW : s.WarmedH U.vm) (h : LB s) : LB U := fun w hw => led_warm (List.all_eq_true.mp ledB_cd w hw) hW (h w hw)
theorem LB.same {u U : State} (hv : u.vm = U.vm) (h : LB u) : LB U := fun w hw => va_Nw.same (List.all_eq_true.mp ledB_tab w hw) hv (h w hw)
def PCZ (D : va_G) (As : List Value) (sz : Nat) (ws : va_W) (tys : List (ClassId × FieldType)) : Array Value → State → Prop := va_Pc As (fun U => U.heap.size = sz ∧ va_P D vwCl ws U.heap ∧ va_K D vwCl tys U ∧ va_D (fun _ => True) ws ∧ NW U ∧ vx_Zq Bundle.tN "UNASSIGNED_STACK" Bundle.steD (va_A ws sz) U U.heap ∧ vx_Zq Bundle.tN "SUPPRESSED_SENTINEL" Bundle.listD (va_A ws sz) U U.heap ∧ LB U)
theorem PCZ_blind {D : va_G} {As : List Value} {sz : Nat} {ws : va_W} {tys : List (ClassId × FieldType)} : FrameBlind (PCZ D As sz ws tys) := fun a U g mk q => by
  obtain ⟨q0, q1, qP, qK, qD, qN, qU, qV, qL⟩ := q
  exact ⟨q0, q1, qP, va_K.moved (u := U) (U := U.calling g mk a) (Vm.Alike.refl U.vm) qK, qD, NW.same (u := U) (U := U.calling g mk a) rfl qN, vx_Zq.moved (u := U) (U := U.calling g mk a) (Vm.Alike.refl U.vm) qU, vx_Zq.moved (u := U) (U := U.calling g mk a) (Vm.Alike.refl U.vm) qV, LB.same (u := U) (U := U.calling g mk a) rfl qL⟩
theorem PSZ {s : State} {H : Heap} {D : va_G} {ws : va_W} {tys : List (ClassId × FieldType)} {A : Nat → Prop} {As : List Value} (hP : va_P D vwCl ws H) (hK : va_K D vwCl tys s) (hD : va_D A ws) (hN : NW s) (hF : ∀ q, va_A ws H.size q → A q) (hU : vx_Zq Bundle.tN "UNASSIGNED_STACK" Bundle.steD A s H) (hV : vx_Zq Bundle.tN "SUPPRESSED_SENTINEL" Bundle.listD A s H) (hL : LB s) : PreS s H (PCZ D As H.size ws tys) As :=
  ⟨PCZ_blind, fun U hU0 hW => ⟨rfl, by rw [hU0], by rw [hU0]; exact hP, va_K.moved hW.alike hK, hD.weaken (fun _ _ _ _ => trivial), NW.warm hW hN, by rw [hU0]; exact vx_Zq.moved hW.alike (vx_Zq.narrow hU hF), by rw [hU0]; exact vx_Zq.moved hW.alike (vx_Zq.narrow hV hF), LB.warm hW hL⟩⟩
theorem PVZ {s : State} {H : Heap} {D : va_G} {ws : va_W} {tys : List (ClassId × FieldType)} {A : Nat → Prop} {As : List Value} (hP : va_P D vwCl ws H) (hK : va_K D vwCl tys s) (hD : va_D A ws) (hN : NW s) (hF : ∀ q, va_A ws H.size q → A q) (hU : vx_Zq Bundle.tN "UNASSIGNED_STACK" Bundle.steD A s H) (hV : vx_Zq Bundle.tN "SUPPRESSED_SENTINEL" Bundle.listD A s H) (hL : LB s) (q0 : Nat) {b ci : Nat} {fs : List Value} {C : String} {T : u_T} {N : Nat} (he : ws[q0]? = some (b, .inr (ci, fs))) (hc : vwCl[ci]? = some (C, T, N)) : PreV s H C b (PCZ D (.ref b :: As) H.size ws tys) As :=
  ⟨PCZ_blind, va_recv hK hP hc he, fun U hU0 hW => ⟨rfl, by rw [hU0], by rw [hU0]; exact hP, va_K.moved hW.alike hK, hD.weaken (fun _ _ _ _ => trivial), NW.warm hW hN, by rw [hU0]; exact vx_Zq.moved hW.alike (vx_Zq.narrow hU hF), by rw [hU0]; exact vx_Zq.moved hW.alike (vx_Zq.narrow hV hF), LB.warm hW hL⟩⟩
theorem led_ot : ∀ w ∈ Cond.classLink RX10 371 "java/util/NoSuchElementException" :: Cond.initialized "java/util/NoSuchElementException" :: vx_atS RX10 375 "java/util/NoSuchElementException" ["java/lang/RuntimeException", "java/lang/Exception"], vx_ot w = true := by decide +kernel
theorem iX10_led_X10 : ∀ w ∈ wsX100, w ∈ wsX10_led := fun _ h => List.mem_cons_of_mem _ (List.mem_append_left _ (List.mem_append_left _ (List.mem_append_left _ (List.mem_append_right _ h))))
theorem iX10_led_X6 : ∀ w ∈ wsX60, w ∈ wsX10_led := fun _ h => List.mem_cons_of_mem _ (List.mem_append_left _ (List.mem_append_left _ (List.mem_append_right _ h)))
theorem dX10_led_0 : decode cX10_led 0 = .ok (.iconst 0, 1) := by decide +kernel
theorem dX10_led_1 : decode cX10_led 1 = .ok (.istore_n 2, 1) := by decide +kernel
theorem dX10_led_12 : decode cX10_led 12 = .ok (.if_icmp .ge 31, 3) := by decide +kernel
theorem dX10_led_2 : decode cX10_led 2 = .ok (.iconst 0, 1) := by decide +kernel
theorem dX10_led_3 : decode cX10_led 3 = .ok (.istore_n 3, 1) := by decide +kernel
theorem dX10_led_4 : decode cX10_led 4 = .ok (.iload_n 3, 1) := by decide +kernel
theorem dX10_led_43 : decode cX10_led 43 = .ok (.new 371, 3) := by decide +kernel
theorem dX10_led_46 : decode cX10_led 46 = .ok (.dup, 1) := by decide +kernel
theorem dX10_led_47 : decode cX10_led 47 = .ok (.ldc_w 373, 3) := by decide +kernel
theorem dX10_led_5 : decode cX10_led 5 = .ok (.aload_n 0, 1) := by decide +kernel
theorem dX10_led_50 : decode cX10_led 50 = .ok (.invokespecial 375, 3) := by decide +kernel
theorem dX10_led_53 : decode cX10_led 53 = .ok (.athrow, 1) := by decide +kernel
theorem dX10_led_6 : decode cX10_led 6 = .ok (.getfield 10, 3) := by decide +kernel
theorem dX10_led_9 : decode cX10_led 9 = .ok (.getfield 96, 3) := by decide +kernel
set_option maxHeartbeats 1000000 in
set_option maxRecDepth 100000 in
theorem kX10_led (l : Launch) (hl0 : l.stackTraces = false) (dC : Nat → ClassId) (dI : Nat → Nat → Nat) (a0 : Nat) (k1 : Int32) (a2 : Nat) (g3 : Value) (g4 : Value) (g5 : Value) (g6 : Value) (g7 : Value) (g8 : Value) (g9 : Value) (g10 : Value) (g11 : Value) (g12 : Value) (g13 : Value) (g14 : Value) (g15 : Value) (g16 : Value) (g17 : Value) (g18 : Value) (g19 : Value) (g20 : Value) (g21 : Value) (g22 : Value) (g23 : Value) (g24 : Value) (g25 : Value) (g26 : Value) (g27 : Value) (g28 : Value) (sz : Nat) : vx_Met l yX10_led wsX10_led ({ frames := 8, cells := 1, slots := 6, locals := 100 }) (PCZ (dC, dI) [.ref a0, .int k1] sz [(a0, .inr (7, [.ref a2, g3, g4, g5, g6, g7, g8, g9, g10, g11])), (a2, .inr (4, [g12, g13, g14, g15, g16, g17, .int 0, g18, g19, g20, g21, g22, g23, g24, g25, g26, g27, g28]))] []) (va_Qi (S := Unit) (fun (r : Int32) _ => False) (fun _ t => BC (dC, dI) (va_A [(a0, .inr (7, [.ref a2, g3, g4, g5, g6, g7, g8, g9, g10, g11])), (a2, .inr (4, [g12, g13, g14, g15, g16, g17, .int 0, g18, g19, g20, g21, g22, g23, g24, g25, g26, g27, g28]))] sz) [] [] t) (va_A [(a0, .inr (7, [.ref a2, g3, g4, g5, g6, g7, g8, g9, g10, g11])), (a2, .inr (4, [g12, g13, g14, g15, g16, g17, .int 0, g18, g19, g20, g21, g22, g23, g24, g25, g26, g27, g28]))] sz)) (vx_X (S := Unit) (fun _ => True) (fun E _ t => E = "java/util/NoSuchElementException") (va_A [(a0, .inr (7, [.ref a2, g3, g4, g5, g6, g7, g8, g9, g10, g11])), (a2, .inr (4, [g12, g13, g14, g15, g16, g17, .int 0, g18, g19, g20, g21, g22, g23, g24, g25, g26, g27, g28]))] sz)) 1 6 (va_A [(a0, .inr (7, [.ref a2, g3, g4, g5, g6, g7, g8, g9, g10, g11])), (a2, .inr (4, [g12, g13, g14, g15, g16, g17, .int 0, g18, g19, g20, g21, g22, g23, g24, g25, g26, g27, g28]))] sz) := by
  refine vx_ofW (cc := cX10_led) (maxL := 4) (ret := (some .int)) (by decide) rfl ?_
  intro p e s m args below meth c s₁ B hml hxt hv
  obtain ⟨rfl, hsz, hP, hK, hD0, hN, hU, hV, hLB⟩ := hv
  have hx := B.exec
  have hb := B.bytes
  have hr := B.returns
  have hts := atoms_spec (ws := wsX10_led) B.pre
  have hown : s.vm.findClass RX10 = some m.cls := findClass_of_methodNamed B.named
  have hlocks := B.notSynchronized
  subst hsz
  have hD := hD0.self (sz := s.heap.size)
  have hF0 : ∀ q, va_A [(a0, .inr (7, [.ref a2, g3, g4, g5, g6, g7, g8, g9, g10, g11])), (a2, .inr (4, [g12, g13, g14, g15, g16, g17, .int 0, g18, g19, g20, g21, g22, g23, g24, g25, g26, g27, g28]))] s.heap.size q → va_A [(a0, .inr (7, [.ref a2, g3, g4, g5, g6, g7, g8, g9, g10, g11])), (a2, .inr (4, [g12, g13, g14, g15, g16, g17, .int 0, g18, g19, g20, g21, g22, g23, g24, g25, g26, g27, g28]))] s.heap.size q := fun _ h => h
  generalize hAe : va_A [(a0, .inr (7, [.ref a2, g3, g4, g5, g6, g7, g8, g9, g10, g11])), (a2, .inr (4, [g12, g13, g14, g15, g16, g17, .int 0, g18, g19, g20, g21, g22, g23, g24, g25, g26, g27, g28]))] s.heap.size = A at hD hU hV hF0 ⊢
  have hS : va_S A s.heap s.heap [] := va_S.rf
  have hP : va_P (dC, dI) vwCl [(a0, .inr (7, [.ref a2, g3, g4, g5, g6, g7, g8, g9, g10, g11])), (a2, .inr (4, [g12, g13, g14, g15, g16, g17, .int 0, g18, g19, g20, g21, g22, g23, g24, g25, g26, g27, g28]))] s.heap := hP
  have hl := lv_entry ([.ref a0, .int k1]) (n := 4) (Nat.le_of_ble_eq_true rfl)
  rw [lg_entry_eq]
  generalize (lg_sl ([.ref a0, .int k1]) ++ List.replicate (4 - (lg_sl ([.ref a0, .int k1])).length) Slot.unset).toArray = ls at hl ⊢
  have hl : lv_has ls 4 [(0, .ref a0), (1, .int k1)] := hl
  refine lv_iconst (v := 0) hx hb dX10_led_0 (by decide) ?_
  refine lv_istore_n (lv' := [(2, .int 0), (0, .ref a0), (1, .int k1)]) hx hb dX10_led_1 rfl hl (by decide) rfl (fun ls hl => ?_)
  refine lv_iconst (v := 0) hx hb dX10_led_2 (by decide) ?_
  refine lv_istore_n (lv' := [(3, .int 0), (2, .int 0), (0, .ref a0), (1, .int k1)]) hx hb dX10_led_3 rfl hl (by decide) rfl (fun ls hl => ?_)
  refine lv_iload_n hx hb dX10_led_4 rfl (lv_at hl 0 rfl) ?_
  refine lv_aload_n hx hb dX10_led_5 rfl (lv_at hl 2 rfl) ?_
  refine va_get (D := (dC, dI)) (ci := 7) (v := .ref a2) (C := RX10) (T := TX10) (N := 10) hx hb hts iX10_led_X10 hown hK hP 0 rfl rfl 0 (by decide) (hts (.fieldLink RX10 10 "HookPier" "plan" "LHookPier$Plan;") (List.mem_of_getElem? (i := 3) rfl)) (fun _ h9 => h9) rfl dX10_led_6 ?_
  refine va_get (D := (dC, dI)) (ci := 4) (v := .int 0) (C := RX6) (T := TX6) (N := 18) hx hb hts iX10_led_X6 hown hK hP 1 rfl rfl 6 (by decide) (hts (.fieldLink RX10 96 "HookPier$Plan" "answers" "I") (List.mem_of_getElem? (i := 4) rfl)) (fun _ h9 => h9) rfl dX10_led_9 ?_
  refine lv_icmp_ge (tgt := 43) hx hb dX10_led_12 (by decide) (fun _ => ?_) (fun c1 => absurd c1 (by decide))
  obtain ⟨sa, hsa⟩ := hN.2.2 (RX10, 373, "no such answer was landed") (List.mem_of_getElem? (i := 23) rfl)
  exact vx_throwSW (pc := 43) hx hb hl0 hown (by decide +kernel) (by decide +kernel) (hts (.classLink RX10 371 "java/util/NoSuchElementException") (List.mem_of_getElem? (i := 1) rfl)) (hts (.initialized "java/util/NoSuchElementException") (List.mem_of_getElem? (i := 2) rfl)) hsa (vx_hat (B := ledB) (fun w h => hts w (List.mem_cons_of_mem _ (List.mem_append_right _ h))) (fun _ h => h) (fun w h => va_Nw.use (List.all_eq_true.mp ledB_tab w h) (hLB w h))) led_ot hU hV hS (by rw [hml]; exact hl.1) dX10_led_43 dX10_led_46 dX10_led_47 dX10_led_50 dX10_led_53 (fun x hx => (hxt x hx).elim) (by decide) (by decide) (by decide) (by decide) hlocks (fun t hvm h1 h2 => ⟨(), trivial, rfl, h1, fun q hq hq2 => h2 q hq⟩) (fun z hz => nomatch hz) (by decide) (by decide)
set_option maxRecDepth 20000 in
theorem ggL_led_X10_led : GoodIn wsL_led wsX10_led := goodIn_ca (goodIn_r _ [6, 7, 8, 9, 10, 11, 12, 13, 14, 15, 16, 17, 18, 19, 20, 21, 22, 23, 24, 25, 26, 27, 28, 29, 30, 31, 32, 33, 34, 35, 36, 37, 38, 39, 40, 41, 42, 43, 44, 45, 46, 47] (by decide +kernel) (by decide +kernel)) (goodIn_sub (fun _ h => List.mem_cons_of_mem _ (List.mem_append_right _ h)) (by decide +kernel))
set_option maxRecDepth 20000 in
theorem gL_led_X10_led : GoodIn wsL_led (wsV RL 7 RX10 yX10_led wsX10_led) := goodIn_app (goodIn_of _ (by decide +kernel)) ggL_led_X10_led
theorem dL_led_0 : decode cL_led 0 = .ok (.aload_n 2, 1) := by decide +kernel
theorem dL_led_1 : decode cL_led 1 = .ok (.iconst 0, 1) := by decide +kernel
theorem dL_led_12 : decode cL_led 12 = .ok (.astore_n 3, 1) := by decide +kernel
theorem dL_led_13 : decode cL_led 13 = .ok (.iconst 1, 1) := by decide +kernel
theorem dL_led_14 : decode cL_led 14 = .ok (.ireturn, 1) := by decide +kernel
theorem dL_led_2 : decode cL_led 2 = .ok (.aload_n 0, 1) := by decide +kernel
theorem dL_led_3 : decode cL_led 3 = .ok (.iload_n 1, 1) := by decide +kernel
theorem dL_led_4 : decode cL_led 4 = .ok (.invokevirtual 7, 3) := by decide +kernel
set_option maxHeartbeats 1000000 in
set_option maxRecDepth 100000 in
theorem kL_led (l : Launch) (hl0 : l.stackTraces = false) (dC : Nat → ClassId) (dI : Nat → Nat → Nat) (a0 : Nat) (k1 : Int32) (a2 : Nat) (g3 : Value) (g4 : Value) (g5 : Value) (g6 : Value) (g7 : Value) (g8 : Value) (g9 : Value) (g10 : Value) (g11 : Value) (g12 : Value) (g13 : Value) (g14 : Value) (g15 : Value) (g16 : Value) (g17 : Value) (g18 : Value) (g19 : Value) (g20 : Value) (g21 : Value) (g22 : Value) (g23 : Value) (g24 : Value) (g25 : Value) (g26 : Value) (g27 : Value) (g28 : Value) (a9 : Nat) (sz : Nat) : Met l yL_led wsL_led ({ frames := 9, cells := 1, slots := 6, locals := 130 }) (PCZ (dC, dI) [.ref a0, .int k1, .ref a9] sz [(a0, .inr (7, [.ref a2, g3, g4, g5, g6, g7, g8, g9, g10, g11])), (a2, .inr (4, [g12, g13, g14, g15, g16, g17, .int 0, g18, g19, g20, g21, g22, g23, g24, g25, g26, g27, g28]))] []) (va_Qi (S := Unit) (fun (r : Int32) _ => r = 1) (fun _ t => BC (dC, dI) (va_A [(a0, .inr (7, [.ref a2, g3, g4, g5, g6, g7, g8, g9, g10, g11])), (a2, .inr (4, [g12, g13, g14, g15, g16, g17, .int 0, g18, g19, g20, g21, g22, g23, g24, g25, g26, g27, g28]))] sz) [] [] t) (va_A [(a0, .inr (7, [.ref a2, g3, g4, g5, g6, g7, g8, g9, g10, g11])), (a2, .inr (4, [g12, g13, g14, g15, g16, g17, .int 0, g18, g19, g20, g21, g22, g23, g24, g25, g26, g27, g28]))] sz)) 1 6 (va_A [(a0, .inr (7, [.ref a2, g3, g4, g5, g6, g7, g8, g9, g10, g11])), (a2, .inr (4, [g12, g13, g14, g15, g16, g17, .int 0, g18, g19, g20, g21, g22, g23, g24, g25, g26, g27, g28]))] sz) := by
  refine va_MetW (cc := cL_led) (maxL := 4) (ret := (some .int)) (hh := [(0, 9, 12, 13)]) (by decide) rfl ?_
  intro p e s m args below meth c s₁ B hml hv
  obtain ⟨rfl, hsz, hP, hK, hD0, hN, hU, hV, hLB⟩ := hv
  have hx := B.exec
  have hb := B.bytes
  have hr := B.returns
  have hts := atoms_spec (ws := wsL_led) B.pre
  have hown : s.vm.findClass RL = some m.cls := findClass_of_methodNamed B.named
  have hlocks := B.notSynchronized
  subst hsz
  have hD := hD0.self (sz := s.heap.size)
  have hF0 : ∀ q, va_A [(a0, .inr (7, [.ref a2, g3, g4, g5, g6, g7, g8, g9, g10, g11])), (a2, .inr (4, [g12, g13, g14, g15, g16, g17, .int 0, g18, g19, g20, g21, g22, g23, g24, g25, g26, g27, g28]))] s.heap.size q → va_A [(a0, .inr (7, [.ref a2, g3, g4, g5, g6, g7, g8, g9, g10, g11])), (a2, .inr (4, [g12, g13, g14, g15, g16, g17, .int 0, g18, g19, g20, g21, g22, g23, g24, g25, g26, g27, g28]))] s.heap.size q := fun _ h => h
  have hAe : va_A [(a0, .inr (7, [.ref a2, g3, g4, g5, g6, g7, g8, g9, g10, g11])), (a2, .inr (4, [g12, g13, g14, g15, g16, g17, .int 0, g18, g19, g20, g21, g22, g23, g24, g25, g26, g27, g28]))] s.heap.size = va_A [(a0, .inr (7, [.ref a2, g3, g4, g5, g6, g7, g8, g9, g10, g11])), (a2, .inr (4, [g12, g13, g14, g15, g16, g17, .int 0, g18, g19, g20, g21, g22, g23, g24, g25, g26, g27, g28]))] s.heap.size := rfl
  have htab := vx_table (x := yL_led) B (hts (.codeWith yL_led cL_led 4 (some .int) [(0, 9, 12, 13)]) List.mem_cons_self)
  have hS : va_S (va_A [(a0, .inr (7, [.ref a2, g3, g4, g5, g6, g7, g8, g9, g10, g11])), (a2, .inr (4, [g12, g13, g14, g15, g16, g17, .int 0, g18, g19, g20, g21, g22, g23, g24, g25, g26, g27, g28]))] s.heap.size) s.heap s.heap [] := va_S.rf
  have hP : va_P (dC, dI) vwCl [(a0, .inr (7, [.ref a2, g3, g4, g5, g6, g7, g8, g9, g10, g11])), (a2, .inr (4, [g12, g13, g14, g15, g16, g17, .int 0, g18, g19, g20, g21, g22, g23, g24, g25, g26, g27, g28]))] s.heap := hP
  have hl := lv_entry ([.ref a0, .int k1, .ref a9]) (n := 4) (Nat.le_of_ble_eq_true rfl)
  rw [lg_entry_eq]
  generalize (lg_sl ([.ref a0, .int k1, .ref a9]) ++ List.replicate (4 - (lg_sl ([.ref a0, .int k1, .ref a9])).length) Slot.unset).toArray = ls at hl ⊢
  have hl : lv_has ls 4 [(0, .ref a0), (1, .int k1), (2, .ref a9)] := hl
  refine lv_aload_n hx hb dL_led_0 rfl (lv_at hl 2 rfl) ?_
  refine lv_iconst (v := 0) hx hb dL_led_1 (by decide) ?_
  refine lv_aload_n hx hb dL_led_2 rfl (lv_at hl 0 rfl) ?_
  refine lv_iload_n hx hb dL_led_3 rfl (lv_at hl 1 rfl) ?_
  refine vx_calli (vx_runV (As := [.int k1]) (rest := [.int 0, .ref a9]) ⟨hx, hb, hml, hown, hts⟩ (kX10_led l hl0 dC dI a0 k1 a2 g3 g4 g5 g6 g7 g8 g9 g10 g11 g12 g13 g14 g15 g16 g17 g18 g19 g20 g21 g22 g23 g24 g25 g26 g27 g28 s.heap.size) (cwV 1 hts gL_led_X10_led rfl rfl rfl (by decide +kernel) ⟨Nat.le_of_ble_eq_true rfl, Nat.le_of_ble_eq_true rfl⟩) (PVZ hP hK hD hN (fun _ h => h) hU hV hLB 0 rfl rfl) rfl rfl hl.1 rfl (lv_room (Nat.le_of_ble_eq_true rfl)) dL_led_4 ⟨Nat.le_of_ble_eq_true rfl, Nat.le_of_ble_eq_true rfl⟩) hS (fun q _ h => h) (fun q h => h) (fun q _ h => h) (fun E ce q9 u t H locs ht hvm _ hE hz hk hS hq hv0 hcl => ?_) (fun r u t H locs _ _ hw _ _ _ _ => hw.elim)
  obtain rfl : E = "java/util/NoSuchElementException" := hE
  refine vx_widen (k := 1) (n := 6) (Nat.le_of_ble_eq_true rfl) (Nat.le_of_ble_eq_true rfl) ?_
  refine vx_catch (own := RL) (name := "java/util/NoSuchElementException") hown [] ⟨0, 9, 12, 13⟩ [] htab (fun z hz => nomatch hz) (by decide) (by decide) (hts (.classLink RL 13 "java/util/NoSuchElementException") (List.mem_of_getElem? (i := 1) rfl)) (va_Nw.use rfl (hLB (.castable "java/util/NoSuchElementException" "java/util/NoSuchElementException") (by decide +kernel))) hq hv0 hcl ?_
  refine lv_astore_n (lv' := [(3, .ref q9), (0, .ref a0), (1, .int k1), (2, .ref a9)]) hx hb dL_led_12 rfl hl (by decide) rfl (fun ls hl => ?_)
  refine lv_iconst (v := 1) hx hb dL_led_13 (by decide) ?_
  have hP9 : va_P (dC, dI) vwCl [] H := fun k q h => by simp at h
  have hD9 := hD.sub (ws' := []) [] (by decide) rfl
  have hK9 := hK.sub (tys' := []) [] rfl
  exact W.iret (v := 1) hx hb hr (fun t ht hW => ⟨⟨1, (), rfl, rfl, by rw [ht]; exact hP9, va_K.moved hW.alike hK9, hD9⟩, hS.F ht⟩) hS.2.2 dL_led_14
