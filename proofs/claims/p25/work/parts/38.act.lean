noncomputable def zrX4_letDownAs_0 : List ZR := zc 0 true (.aload_n 1) 1 (zc 1 true (.getfield 31) 3 (zc 4 true (.iconst 0) 1 (zc 5 true (.aload_n 0) 1 (zc 6 true (.getfield 31) 3 (zc 9 true (.iconst 0) 1 (zc 10 true (.aload_n 0) 1 (zc 11 true (.getfield 31) 3 (zc 14 true (.arraylength) 1 (zc 15 true (.invokestatic 34) 3 (zc 18 true (.return_) 1 ([])))))))))))
theorem zrX4_letDownAs_0_ok : zck 0 ((zby cX4_letDownAs).drop 0) zrX4_letDownAs_0 = true := by decide +kernel
def vfX4_letDownAs : List Cond := List.cons (.code yX4_letDownAs cX4_letDownAs 2 none) (apW [.fieldLink RX4 31 "HookPier$Now" "line" "[I", .methodLink RX4 34 arraycopyName, .native arraycopyName, .static arraycopyName, .initialized "java/lang/System"] (wsX40))
theorem ifX4_letDownAs_X4 : ∀ w ∈ wsX40, w ∈ vfX4_letDownAs := fun _ h => (List.mem_cons_of_mem _ (List.mem_append_right _ h))
theorem qfX4_letDownAs : Good vfX4_letDownAs := gd_cons (by decide +kernel) (gd_app (gd_dec (by decide +kernel) : Good [.fieldLink RX4 31 "HookPier$Now" "line" "[I", .methodLink RX4 34 arraycopyName, .native arraycopyName, .static arraycopyName, .initialized "java/lang/System"]) qsX4)
set_option maxHeartbeats 2000000 in
set_option maxRecDepth 100000 in
theorem kfX4_letDownAs (l : Launch) (dC : Nat → ClassId) (dI : Nat → Nat → Nat) (a0 : Nat) (a1 : Nat) (un : Nat → Nat) (kn : Nat → ClassId) (un2 : Nat → Nat) (kn2 : Nat → ClassId) (n_n : TX4_n) (n2_n : TX4_n) (sz : Nat) (out : TX4_n) (h : f_X4_letDownAs n_n n2_n = out) : KCv l yX4_letDownAs vfX4_letDownAs ({ frames := 1, cells := 0, slots := 0, locals := 40 }) (dC, dI) [.ref a0, .ref a1] sz (bX4 a0 un kn n_n (bX4 a1 un2 kn2 n2_n [])) (tX4 kn (tX4 kn2 ([]))) (fun _ => True) (bX4 a0 un kn out (bX4 a1 un2 kn2 n2_n [])) 0 0 := by
  refine Met.ofW (cc := cX4_letDownAs) (maxL := 2) (ret := none) (by decide) rfl ?_
  intro p e s m args below meth c s₁ B0 hml hv
  obtain ⟨rfl, hsz, hP, hK, hD0, hN⟩ := hv
  have hx := B0.exec
  have hb := B0.bytes
  have hr := B0.returns
  have hts := atoms_spec (ws := vfX4_letDownAs) B0.pre
  have hown : s.vm.findClass RX4 = some m.cls := findClass_of_methodNamed B0.named
  have hlocks := B0.notSynchronized
  subst hsz
  have hD := hD0.self (sz := s.heap.size)
  generalize hAe : va_A (bX4 a0 un kn n_n (bX4 a1 un2 kn2 n2_n [])) s.heap.size = A at hD ⊢
  have hA : ∀ q : Nat, s.heap.size ≤ q → A q := fun q h => by rw [← hAe]; exact Or.inr h
  have hS : va_S A s.heap s.heap [] := va_S.rf
  have hP : va_P (dC, dI) vwCl (bX4 a0 un kn n_n (bX4 a1 un2 kn2 n2_n [])) s.heap := hP
  have hl := lv_entry ([.ref a0, .ref a1]) (n := 2) (Nat.le_of_ble_eq_true rfl)
  rw [lg_entry_eq]
  generalize (lg_sl ([.ref a0, .ref a1]) ++ List.replicate (2 - (lg_sl ([.ref a0, .ref a1])).length) Slot.unset).toArray = ls at hl ⊢
  have hl : lv_has ls 2 [(0, .ref a0), (1, .ref a1)] := hl
  refine W_q (fun QQ hQQ => ?_)
  rw [f_X4_letDownAs] at h
  refine lv_aload_n hx hb (zat zrX4_letDownAs_0_ok 0 rfl) rfl (lv_at hl 1 rfl) ?_
  refine va_get (D := (dC, dI)) (ci := 3) (v := .ref (un2 3)) (C := RX4) (T := TX4) (N := 7) hx hb hts ifX4_letDownAs_X4 hown hK hP 5 rfl rfl 6 (by decide) (hts (.fieldLink RX4 31 "HookPier$Now" "line" "[I") (List.mem_of_getElem? (i := 1) rfl)) (fun _ h9 => h9) rfl (zat zrX4_letDownAs_0_ok 1 rfl) ?_
  refine lv_iconst (v := 0) hx hb (zat zrX4_letDownAs_0_ok 2 rfl) (by decide) ?_
  refine lv_aload_n hx hb (zat zrX4_letDownAs_0_ok 3 rfl) rfl (lv_at hl 0 rfl) ?_
  refine va_get (D := (dC, dI)) (ci := 3) (v := .ref (un 3)) (C := RX4) (T := TX4) (N := 7) hx hb hts ifX4_letDownAs_X4 hown hK hP 0 rfl rfl 6 (by decide) (hts (.fieldLink RX4 31 "HookPier$Now" "line" "[I") (List.mem_of_getElem? (i := 1) rfl)) (fun _ h9 => h9) rfl (zat zrX4_letDownAs_0_ok 4 rfl) ?_
  refine lv_iconst (v := 0) hx hb (zat zrX4_letDownAs_0_ok 5 rfl) (by decide) ?_
  refine lv_aload_n hx hb (zat zrX4_letDownAs_0_ok 6 rfl) rfl (lv_at hl 0 rfl) ?_
  refine va_get (D := (dC, dI)) (ci := 3) (v := .ref (un 3)) (C := RX4) (T := TX4) (N := 7) hx hb hts ifX4_letDownAs_X4 hown hK hP 0 rfl rfl 6 (by decide) (hts (.fieldLink RX4 31 "HookPier$Now" "line" "[I") (List.mem_of_getElem? (i := 1) rfl)) (fun _ h9 => h9) rfl (zat zrX4_letDownAs_0_ok 7 rfl) ?_
  refine va_alen (v := 5) hx hb hK hP 4 3 rfl rfl rfl (zat zrX4_letDownAs_0_ok 8 rfl) ?_
  refine va_copyi hx hb (by rw [hml]; exact hl.1.symm) hown (hts (.methodLink RX4 34 arraycopyName) (List.mem_of_getElem? (i := 2) rfl)) (hts (.native arraycopyName) (List.mem_of_getElem? (i := 3) rfl)) (hts (.static arraycopyName) (List.mem_of_getElem? (i := 4) rfl)) (hts (.initialized "java/lang/System") (List.mem_of_getElem? (i := 5) rfl)) hK hP hD hS 9 4 7 3 rfl rfl rfl rfl rfl (by decide) (by decide) (by decide) (by decide) (by decide) (fun _ _ => rfl) (Nat.le_of_ble_eq_true rfl) (Nat.le_of_ble_eq_true rfl) (zat zrX4_letDownAs_0_ok 9 rfl) (fun H locs hP hD hS => ?_)
  obtain ⟨hP, hD⟩ := pd_mk (bX4 a0 un kn (n_n.1, n_n.2.1, n_n.2.2.1, n_n.2.2.2.1, n_n.2.2.2.2.1, n_n.2.2.2.2.2.1, (va_cpy n2_n.2.2.2.2.2.2 n_n.2.2.2.2.2.2 (0 : Int32).toNatClampNeg (0 : Int32).toNatClampNeg (5 : Int32).toNatClampNeg)) (bX4 a1 un2 kn2 n2_n [])) hP hD
  obtain rfl := h
  obtain ⟨hP9, hD9⟩ := pd_sub (bX4 a0 un kn (n_n.1, n_n.2.1, n_n.2.2.1, n_n.2.2.2.1, n_n.2.2.2.2.1, n_n.2.2.2.2.2.1, (va_cpy n2_n.2.2.2.2.2.2 n_n.2.2.2.2.2.2 (0 : Int32).toNatClampNeg (0 : Int32).toNatClampNeg (5 : Int32).toNatClampNeg)) (bX4 a1 un2 kn2 n2_n [])) [0, 1, 2, 3, 4, 5, 6, 7, 8, 9] hP hD (by decide) rfl
  have hK9 := hK.sub (tys' := []) [] rfl
  rw [hQQ]
  exact W.vret hx hb hr (fun t ht hW => ⟨⟨(), rfl, trivial, by rw [ht]; exact hP9, va_K.moved hW.alike hK9, hD9⟩, hS.F ht⟩) hS.2.2 (zat zrX4_letDownAs_0_ok 10 rfl)
noncomputable def zrX4_become_0 : List ZR := zc 0 true (.aload_n 0) 1 (zc 1 true (.aload_n 1) 1 (zc 2 true (.getfield 9) 3 (zc 5 true (.putfield 9) 3 (zc 8 true (.aload_n 0) 1 (zc 9 true (.aload_n 1) 1 (zc 10 true (.getfield 15) 3 (zc 13 true (.putfield 15) 3 (zc 16 true (.aload_n 0) 1 (zc 17 true (.aload_n 1) 1 (zc 18 true (.getfield 18) 3 (zc 21 true (.putfield 18) 3 (zc 24 true (.aload_n 1) 1 (zc 25 true (.getfield 21) 3 (zc 28 true (.iconst 0) 1 (zc 29 true (.aload_n 0) 1 (zc 30 true (.getfield 21) 3 (zc 33 true (.iconst 0) 1 (zc 34 true (.aload_n 0) 1 (zc 35 true (.getfield 21) 3 (zc 38 true (.arraylength) 1 (zc 39 true (.invokestatic 34) 3 (zc 42 true (.aload_n 1) 1 (zc 43 true (.getfield 25) 3 (zc 46 true (.iconst 0) 1 (zc 47 true (.aload_n 0) 1 (zc 48 true (.getfield 25) 3 (zc 51 true (.iconst 0) 1 (zc 52 true (.aload_n 0) 1 (zc 53 true (.getfield 25) 3 (zc 56 true (.arraylength) 1 (zc 57 true (.invokestatic 34) 3 (zc 60 true (.aload_n 1) 1 (zc 61 true (.getfield 28) 3 (zc 64 true (.iconst 0) 1 (zc 65 true (.aload_n 0) 1 (zc 66 true (.getfield 28) 3 (zc 69 true (.iconst 0) 1 (zc 70 true (.aload_n 0) 1 (zc 71 true (.getfield 28) 3 (zc 74 true (.arraylength) 1 (zc 75 true (.invokestatic 34) 3 (zc 78 true (.aload_n 0) 1 (zc 79 true (.aload_n 1) 1 (zc 80 true (.invokevirtual 40) 3 (zc 83 true (.return_) 1 ([]))))))))))))))))))))))))))))))))))))))))))))))
theorem zrX4_become_0_ok : zck 0 ((zby cX4_become).drop 0) zrX4_become_0 = true := by decide +kernel
def vfX4_become : List Cond := List.cons (.code yX4_become cX4_become 2 none) (apW [.fieldLink RX4 9 "HookPier$Now" "today" "I", .fieldLink RX4 15 "HookPier$Now" "seedNow" "I", .fieldLink RX4 18 "HookPier$Now" "soldFor" "I", .fieldLink RX4 21 "HookPier$Now" "stage" "[I", .methodLink RX4 34 arraycopyName, .native arraycopyName, .static arraycopyName, .initialized "java/lang/System", .fieldLink RX4 25 "HookPier$Now" "landedOn" "[I", .fieldLink RX4 28 "HookPier$Now" "landedBy" "[I", .methodLink RX4 40 yX4_letDownAs, .instanceMethod yX4_letDownAs, .selects RX4 yX4_letDownAs yX4_letDownAs, .initialized RX4] (apW wsX40 (vfX4_letDownAs)))
theorem ifX4_become_X4 : ∀ w ∈ wsX40, w ∈ vfX4_become := fun _ h => (List.mem_cons_of_mem _ (List.mem_append_right _ (List.mem_append_left _ h)))
theorem qfX4_become : Good vfX4_become := gd_cons (by decide +kernel) (gd_app (gd_dec (by decide +kernel) : Good [.fieldLink RX4 9 "HookPier$Now" "today" "I", .fieldLink RX4 15 "HookPier$Now" "seedNow" "I", .fieldLink RX4 18 "HookPier$Now" "soldFor" "I", .fieldLink RX4 21 "HookPier$Now" "stage" "[I", .methodLink RX4 34 arraycopyName, .native arraycopyName, .static arraycopyName, .initialized "java/lang/System", .fieldLink RX4 25 "HookPier$Now" "landedOn" "[I", .fieldLink RX4 28 "HookPier$Now" "landedBy" "[I", .methodLink RX4 40 yX4_letDownAs, .instanceMethod yX4_letDownAs, .selects RX4 yX4_letDownAs yX4_letDownAs, .initialized RX4]) (gd_app qsX4 qfX4_letDownAs))
theorem gfX4_become_0 : GoodIn vfX4_become (wsV RX4 40 RX4 yX4_letDownAs vfX4_letDownAs) := goodIn_app (goodIn_r [.methodLink RX4 40 yX4_letDownAs, .instanceMethod yX4_letDownAs, .selects RX4 yX4_letDownAs yX4_letDownAs, .initialized RX4] [11, 12, 13, 14] rfl (by decide +kernel)) (goodIn_m (fun _ h => (List.mem_cons_of_mem _ (List.mem_append_right _ (List.mem_append_right _ h)))) qfX4_letDownAs)
set_option maxHeartbeats 2000000 in
set_option maxRecDepth 100000 in
theorem kfX4_become (l : Launch) (dC : Nat → ClassId) (dI : Nat → Nat → Nat) (a0 : Nat) (a1 : Nat) (un : Nat → Nat) (kn : Nat → ClassId) (un2 : Nat → Nat) (kn2 : Nat → ClassId) (n_n : TX4_n) (n2_n : TX4_n) (sz : Nat) (out : TX4_n) (h : f_X4_become n_n n2_n = out) : KCv l yX4_become vfX4_become ({ frames := 2, cells := 0, slots := 0, locals := 61 }) (dC, dI) [.ref a0, .ref a1] sz (bX4 a0 un kn n_n (bX4 a1 un2 kn2 n2_n [])) (tX4 kn (tX4 kn2 ([]))) (fun _ => True) (bX4 a0 un kn out (bX4 a1 un2 kn2 n2_n [])) 0 0 := by
  refine Met.ofW (cc := cX4_become) (maxL := 2) (ret := none) (by decide) rfl ?_
  intro p e s m args below meth c s₁ B0 hml hv
  obtain ⟨rfl, hsz, hP, hK, hD0, hN⟩ := hv
  have hx := B0.exec
  have hb := B0.bytes
  have hr := B0.returns
  have hts := atoms_spec (ws := vfX4_become) B0.pre
  have hown : s.vm.findClass RX4 = some m.cls := findClass_of_methodNamed B0.named
  have hlocks := B0.notSynchronized
  subst hsz
  have hD := hD0.self (sz := s.heap.size)
  generalize hAe : va_A (bX4 a0 un kn n_n (bX4 a1 un2 kn2 n2_n [])) s.heap.size = A at hD ⊢
  have hA : ∀ q : Nat, s.heap.size ≤ q → A q := fun q h => by rw [← hAe]; exact Or.inr h
  have hS : va_S A s.heap s.heap [] := va_S.rf
  have hP : va_P (dC, dI) vwCl (bX4 a0 un kn n_n (bX4 a1 un2 kn2 n2_n [])) s.heap := hP
  have hl := lv_entry ([.ref a0, .ref a1]) (n := 2) (Nat.le_of_ble_eq_true rfl)
  rw [lg_entry_eq]
  generalize (lg_sl ([.ref a0, .ref a1]) ++ List.replicate (2 - (lg_sl ([.ref a0, .ref a1])).length) Slot.unset).toArray = ls at hl ⊢
  have hl : lv_has ls 2 [(0, .ref a0), (1, .ref a1)] := hl
  refine W_q (fun QQ hQQ => ?_)
  rw [f_X4_become] at h
  refine lv_aload_n hx hb (zat zrX4_become_0_ok 0 rfl) rfl (lv_at hl 0 rfl) ?_
  refine lv_aload_n hx hb (zat zrX4_become_0_ok 1 rfl) rfl (lv_at hl 1 rfl) ?_
  refine va_get (D := (dC, dI)) (ci := 3) (v := .int n2_n.1) (C := RX4) (T := TX4) (N := 7) hx hb hts ifX4_become_X4 hown hK hP 5 rfl rfl 0 (by decide) (hts (.fieldLink RX4 9 "HookPier$Now" "today" "I") (List.mem_of_getElem? (i := 1) rfl)) (fun _ h9 => h9) rfl (zat zrX4_become_0_ok 2 rfl) ?_
  refine va_put (D := (dC, dI)) (ci := 3) (v := .int n2_n.1) (ty := .int) (C := RX4) (T := TX4) (N := 7) hx hb hts ifX4_become_X4 tyX4 tyX4_ok nmX4 hown hK hP hD hS 0 rfl rfl 0 (by decide) (hts (.fieldLink RX4 9 "HookPier$Now" "today" "I") (List.mem_of_getElem? (i := 1) rfl)) (fun _ h9 => h9) rfl (by decide +kernel) rfl rfl (Nat.le_of_ble_eq_true rfl) (zat zrX4_become_0_ok 3 rfl) (fun H locs hP hD hS => ?_)
  obtain ⟨hP, hD⟩ := pd_mk (bX4 a0 un kn (n2_n.1, n_n.2) (bX4 a1 un2 kn2 n2_n [])) hP hD
  refine lv_aload_n hx hb (zat zrX4_become_0_ok 4 rfl) rfl (lv_at hl 0 rfl) ?_
  refine lv_aload_n hx hb (zat zrX4_become_0_ok 5 rfl) rfl (lv_at hl 1 rfl) ?_
  refine va_get (D := (dC, dI)) (ci := 3) (v := .int n2_n.2.1) (C := RX4) (T := TX4) (N := 7) hx hb hts ifX4_become_X4 hown hK hP 5 rfl rfl 1 (by decide) (hts (.fieldLink RX4 15 "HookPier$Now" "seedNow" "I") (List.mem_of_getElem? (i := 2) rfl)) (fun _ h9 => h9) rfl (zat zrX4_become_0_ok 6 rfl) ?_
  refine va_put (D := (dC, dI)) (ci := 3) (v := .int n2_n.2.1) (ty := .int) (C := RX4) (T := TX4) (N := 7) hx hb hts ifX4_become_X4 tyX4 tyX4_ok nmX4 hown hK hP hD hS 0 rfl rfl 1 (by decide) (hts (.fieldLink RX4 15 "HookPier$Now" "seedNow" "I") (List.mem_of_getElem? (i := 2) rfl)) (fun _ h9 => h9) rfl (by decide +kernel) rfl rfl (Nat.le_of_ble_eq_true rfl) (zat zrX4_become_0_ok 7 rfl) (fun H locs hP hD hS => ?_)
  obtain ⟨hP, hD⟩ := pd_mk (bX4 a0 un kn (n2_n.1, n2_n.2.1, n_n.2.2) (bX4 a1 un2 kn2 n2_n [])) hP hD
  refine lv_aload_n hx hb (zat zrX4_become_0_ok 8 rfl) rfl (lv_at hl 0 rfl) ?_
  refine lv_aload_n hx hb (zat zrX4_become_0_ok 9 rfl) rfl (lv_at hl 1 rfl) ?_
  refine va_get (D := (dC, dI)) (ci := 3) (v := .int n2_n.2.2.1) (C := RX4) (T := TX4) (N := 7) hx hb hts ifX4_become_X4 hown hK hP 5 rfl rfl 2 (by decide) (hts (.fieldLink RX4 18 "HookPier$Now" "soldFor" "I") (List.mem_of_getElem? (i := 3) rfl)) (fun _ h9 => h9) rfl (zat zrX4_become_0_ok 10 rfl) ?_
  refine va_put (D := (dC, dI)) (ci := 3) (v := .int n2_n.2.2.1) (ty := .int) (C := RX4) (T := TX4) (N := 7) hx hb hts ifX4_become_X4 tyX4 tyX4_ok nmX4 hown hK hP hD hS 0 rfl rfl 2 (by decide) (hts (.fieldLink RX4 18 "HookPier$Now" "soldFor" "I") (List.mem_of_getElem? (i := 3) rfl)) (fun _ h9 => h9) rfl (by decide +kernel) rfl rfl (Nat.le_of_ble_eq_true rfl) (zat zrX4_become_0_ok 11 rfl) (fun H locs hP hD hS => ?_)
  obtain ⟨hP, hD⟩ := pd_mk (bX4 a0 un kn (n2_n.1, n2_n.2.1, n2_n.2.2.1, n_n.2.2.2) (bX4 a1 un2 kn2 n2_n [])) hP hD
  refine lv_aload_n hx hb (zat zrX4_become_0_ok 12 rfl) rfl (lv_at hl 1 rfl) ?_
  refine va_get (D := (dC, dI)) (ci := 3) (v := .ref (un2 0)) (C := RX4) (T := TX4) (N := 7) hx hb hts ifX4_become_X4 hown hK hP 5 rfl rfl 3 (by decide) (hts (.fieldLink RX4 21 "HookPier$Now" "stage" "[I") (List.mem_of_getElem? (i := 4) rfl)) (fun _ h9 => h9) rfl (zat zrX4_become_0_ok 13 rfl) ?_
  refine lv_iconst (v := 0) hx hb (zat zrX4_become_0_ok 14 rfl) (by decide) ?_
  refine lv_aload_n hx hb (zat zrX4_become_0_ok 15 rfl) rfl (lv_at hl 0 rfl) ?_
  refine va_get (D := (dC, dI)) (ci := 3) (v := .ref (un 0)) (C := RX4) (T := TX4) (N := 7) hx hb hts ifX4_become_X4 hown hK hP 0 rfl rfl 3 (by decide) (hts (.fieldLink RX4 21 "HookPier$Now" "stage" "[I") (List.mem_of_getElem? (i := 4) rfl)) (fun _ h9 => h9) rfl (zat zrX4_become_0_ok 16 rfl) ?_
  refine lv_iconst (v := 0) hx hb (zat zrX4_become_0_ok 17 rfl) (by decide) ?_
  refine lv_aload_n hx hb (zat zrX4_become_0_ok 18 rfl) rfl (lv_at hl 0 rfl) ?_
  refine va_get (D := (dC, dI)) (ci := 3) (v := .ref (un 0)) (C := RX4) (T := TX4) (N := 7) hx hb hts ifX4_become_X4 hown hK hP 0 rfl rfl 3 (by decide) (hts (.fieldLink RX4 21 "HookPier$Now" "stage" "[I") (List.mem_of_getElem? (i := 4) rfl)) (fun _ h9 => h9) rfl (zat zrX4_become_0_ok 19 rfl) ?_
  refine va_alen (v := 6) hx hb hK hP 1 0 rfl rfl rfl (zat zrX4_become_0_ok 20 rfl) ?_
  refine va_copyi hx hb (by rw [hml]; exact hl.1.symm) hown (hts (.methodLink RX4 34 arraycopyName) (List.mem_of_getElem? (i := 5) rfl)) (hts (.native arraycopyName) (List.mem_of_getElem? (i := 6) rfl)) (hts (.static arraycopyName) (List.mem_of_getElem? (i := 7) rfl)) (hts (.initialized "java/lang/System") (List.mem_of_getElem? (i := 8) rfl)) hK hP hD hS 6 1 4 0 rfl rfl rfl rfl rfl (by decide) (by decide) (by decide) (by decide) (by decide) (fun _ _ => rfl) (Nat.le_of_ble_eq_true rfl) (Nat.le_of_ble_eq_true rfl) (zat zrX4_become_0_ok 21 rfl) (fun H locs hP hD hS => ?_)
  obtain ⟨hP, hD⟩ := pd_mk (bX4 a0 un kn (n2_n.1, n2_n.2.1, n2_n.2.2.1, (va_cpy n2_n.2.2.2.1 n_n.2.2.2.1 (0 : Int32).toNatClampNeg (0 : Int32).toNatClampNeg (6 : Int32).toNatClampNeg), n_n.2.2.2.2) (bX4 a1 un2 kn2 n2_n [])) hP hD
  refine lv_aload_n hx hb (zat zrX4_become_0_ok 22 rfl) rfl (lv_at hl 1 rfl) ?_
  refine va_get (D := (dC, dI)) (ci := 3) (v := .ref (un2 1)) (C := RX4) (T := TX4) (N := 7) hx hb hts ifX4_become_X4 hown hK hP 5 rfl rfl 4 (by decide) (hts (.fieldLink RX4 25 "HookPier$Now" "landedOn" "[I") (List.mem_of_getElem? (i := 9) rfl)) (fun _ h9 => h9) rfl (zat zrX4_become_0_ok 23 rfl) ?_
  refine lv_iconst (v := 0) hx hb (zat zrX4_become_0_ok 24 rfl) (by decide) ?_
  refine lv_aload_n hx hb (zat zrX4_become_0_ok 25 rfl) rfl (lv_at hl 0 rfl) ?_
  refine va_get (D := (dC, dI)) (ci := 3) (v := .ref (un 1)) (C := RX4) (T := TX4) (N := 7) hx hb hts ifX4_become_X4 hown hK hP 0 rfl rfl 4 (by decide) (hts (.fieldLink RX4 25 "HookPier$Now" "landedOn" "[I") (List.mem_of_getElem? (i := 9) rfl)) (fun _ h9 => h9) rfl (zat zrX4_become_0_ok 26 rfl) ?_
  refine lv_iconst (v := 0) hx hb (zat zrX4_become_0_ok 27 rfl) (by decide) ?_
  refine lv_aload_n hx hb (zat zrX4_become_0_ok 28 rfl) rfl (lv_at hl 0 rfl) ?_
  refine va_get (D := (dC, dI)) (ci := 3) (v := .ref (un 1)) (C := RX4) (T := TX4) (N := 7) hx hb hts ifX4_become_X4 hown hK hP 0 rfl rfl 4 (by decide) (hts (.fieldLink RX4 25 "HookPier$Now" "landedOn" "[I") (List.mem_of_getElem? (i := 9) rfl)) (fun _ h9 => h9) rfl (zat zrX4_become_0_ok 29 rfl) ?_
  refine va_alen (v := 6) hx hb hK hP 2 1 rfl rfl rfl (zat zrX4_become_0_ok 30 rfl) ?_
  refine va_copyi hx hb (by rw [hml]; exact hl.1.symm) hown (hts (.methodLink RX4 34 arraycopyName) (List.mem_of_getElem? (i := 5) rfl)) (hts (.native arraycopyName) (List.mem_of_getElem? (i := 6) rfl)) (hts (.static arraycopyName) (List.mem_of_getElem? (i := 7) rfl)) (hts (.initialized "java/lang/System") (List.mem_of_getElem? (i := 8) rfl)) hK hP hD hS 7 2 5 1 rfl rfl rfl rfl rfl (by decide) (by decide) (by decide) (by decide) (by decide) (fun _ _ => rfl) (Nat.le_of_ble_eq_true rfl) (Nat.le_of_ble_eq_true rfl) (zat zrX4_become_0_ok 31 rfl) (fun H locs hP hD hS => ?_)
  obtain ⟨hP, hD⟩ := pd_mk (bX4 a0 un kn (n2_n.1, n2_n.2.1, n2_n.2.2.1, (va_cpy n2_n.2.2.2.1 n_n.2.2.2.1 (0 : Int32).toNatClampNeg (0 : Int32).toNatClampNeg (6 : Int32).toNatClampNeg), (va_cpy n2_n.2.2.2.2.1 n_n.2.2.2.2.1 (0 : Int32).toNatClampNeg (0 : Int32).toNatClampNeg (6 : Int32).toNatClampNeg), n_n.2.2.2.2.2) (bX4 a1 un2 kn2 n2_n [])) hP hD
  refine lv_aload_n hx hb (zat zrX4_become_0_ok 32 rfl) rfl (lv_at hl 1 rfl) ?_
  refine va_get (D := (dC, dI)) (ci := 3) (v := .ref (un2 2)) (C := RX4) (T := TX4) (N := 7) hx hb hts ifX4_become_X4 hown hK hP 5 rfl rfl 5 (by decide) (hts (.fieldLink RX4 28 "HookPier$Now" "landedBy" "[I") (List.mem_of_getElem? (i := 10) rfl)) (fun _ h9 => h9) rfl (zat zrX4_become_0_ok 33 rfl) ?_
  refine lv_iconst (v := 0) hx hb (zat zrX4_become_0_ok 34 rfl) (by decide) ?_
  refine lv_aload_n hx hb (zat zrX4_become_0_ok 35 rfl) rfl (lv_at hl 0 rfl) ?_
  refine va_get (D := (dC, dI)) (ci := 3) (v := .ref (un 2)) (C := RX4) (T := TX4) (N := 7) hx hb hts ifX4_become_X4 hown hK hP 0 rfl rfl 5 (by decide) (hts (.fieldLink RX4 28 "HookPier$Now" "landedBy" "[I") (List.mem_of_getElem? (i := 10) rfl)) (fun _ h9 => h9) rfl (zat zrX4_become_0_ok 36 rfl) ?_
  refine lv_iconst (v := 0) hx hb (zat zrX4_become_0_ok 37 rfl) (by decide) ?_
  refine lv_aload_n hx hb (zat zrX4_become_0_ok 38 rfl) rfl (lv_at hl 0 rfl) ?_
  refine va_get (D := (dC, dI)) (ci := 3) (v := .ref (un 2)) (C := RX4) (T := TX4) (N := 7) hx hb hts ifX4_become_X4 hown hK hP 0 rfl rfl 5 (by decide) (hts (.fieldLink RX4 28 "HookPier$Now" "landedBy" "[I") (List.mem_of_getElem? (i := 10) rfl)) (fun _ h9 => h9) rfl (zat zrX4_become_0_ok 39 rfl) ?_
  refine va_alen (v := 6) hx hb hK hP 3 2 rfl rfl rfl (zat zrX4_become_0_ok 40 rfl) ?_
  refine va_copyi hx hb (by rw [hml]; exact hl.1.symm) hown (hts (.methodLink RX4 34 arraycopyName) (List.mem_of_getElem? (i := 5) rfl)) (hts (.native arraycopyName) (List.mem_of_getElem? (i := 6) rfl)) (hts (.static arraycopyName) (List.mem_of_getElem? (i := 7) rfl)) (hts (.initialized "java/lang/System") (List.mem_of_getElem? (i := 8) rfl)) hK hP hD hS 8 3 6 2 rfl rfl rfl rfl rfl (by decide) (by decide) (by decide) (by decide) (by decide) (fun _ _ => rfl) (Nat.le_of_ble_eq_true rfl) (Nat.le_of_ble_eq_true rfl) (zat zrX4_become_0_ok 41 rfl) (fun H locs hP hD hS => ?_)
  obtain ⟨hP, hD⟩ := pd_mk (bX4 a0 un kn (n2_n.1, n2_n.2.1, n2_n.2.2.1, (va_cpy n2_n.2.2.2.1 n_n.2.2.2.1 (0 : Int32).toNatClampNeg (0 : Int32).toNatClampNeg (6 : Int32).toNatClampNeg), (va_cpy n2_n.2.2.2.2.1 n_n.2.2.2.2.1 (0 : Int32).toNatClampNeg (0 : Int32).toNatClampNeg (6 : Int32).toNatClampNeg), (va_cpy n2_n.2.2.2.2.2.1 n_n.2.2.2.2.2.1 (0 : Int32).toNatClampNeg (0 : Int32).toNatClampNeg (6 : Int32).toNatClampNeg), n_n.2.2.2.2.2.2) (bX4 a1 un2 kn2 n2_n [])) hP hD
  refine lv_aload_n hx hb (zat zrX4_become_0_ok 42 rfl) rfl (lv_at hl 0 rfl) ?_
  refine lv_aload_n hx hb (zat zrX4_become_0_ok 43 rfl) rfl (lv_at hl 1 rfl) ?_
  obtain ⟨o80, eo80⟩ : ∃ o, o = f_X4_letDownAs (n2_n.1, n2_n.2.1, n2_n.2.2.1, (va_cpy n2_n.2.2.2.1 n_n.2.2.2.1 (0 : Int32).toNatClampNeg (0 : Int32).toNatClampNeg (6 : Int32).toNatClampNeg), (va_cpy n2_n.2.2.2.2.1 n_n.2.2.2.2.1 (0 : Int32).toNatClampNeg (0 : Int32).toNatClampNeg (6 : Int32).toNatClampNeg), (va_cpy n2_n.2.2.2.2.2.1 n_n.2.2.2.2.2.1 (0 : Int32).toNatClampNeg (0 : Int32).toNatClampNeg (6 : Int32).toNatClampNeg), n_n.2.2.2.2.2.2) n2_n := ⟨_, rfl⟩
  have h := nm_of h o80 eo80
  refine ck_v (wc := (bX4 a0 un kn (n2_n.1, n2_n.2.1, n2_n.2.2.1, (va_cpy n2_n.2.2.2.1 n_n.2.2.2.1 (0 : Int32).toNatClampNeg (0 : Int32).toNatClampNeg (6 : Int32).toNatClampNeg), (va_cpy n2_n.2.2.2.2.1 n_n.2.2.2.2.1 (0 : Int32).toNatClampNeg (0 : Int32).toNatClampNeg (6 : Int32).toNatClampNeg), (va_cpy n2_n.2.2.2.2.2.1 n_n.2.2.2.2.2.1 (0 : Int32).toNatClampNeg (0 : Int32).toNatClampNeg (6 : Int32).toNatClampNeg), n_n.2.2.2.2.2.2) (bX4 a1 un2 kn2 n2_n []))) (wr := []) hP hD hK hS hA [0, 1, 2, 3, 4, 5, 6, 7, 8, 9] [] rfl rfl (by decide) (by decide) (by decide) (fun hPc hDc => (va_runV (As := [.ref a1]) (rest := []) ⟨hx, hb, hml, hown, hts⟩ (kfX4_letDownAs l dC dI a0 a1 un kn un2 kn2 (n2_n.1, n2_n.2.1, n2_n.2.2.1, (va_cpy n2_n.2.2.2.1 n_n.2.2.2.1 (0 : Int32).toNatClampNeg (0 : Int32).toNatClampNeg (6 : Int32).toNatClampNeg), (va_cpy n2_n.2.2.2.2.1 n_n.2.2.2.2.1 (0 : Int32).toNatClampNeg (0 : Int32).toNatClampNeg (6 : Int32).toNatClampNeg), (va_cpy n2_n.2.2.2.2.2.1 n_n.2.2.2.2.2.1 (0 : Int32).toNatClampNeg (0 : Int32).toNatClampNeg (6 : Int32).toNatClampNeg), n_n.2.2.2.2.2.2) n2_n H.size o80 eo80.symm) (cwV 1 hts gfX4_become_0 rfl rfl rfl (by decide +kernel) ⟨(Nat.le_of_ble_eq_true rfl), (Nat.le_of_ble_eq_true rfl)⟩) (PV hPc (hK.sub (tys' := (tX4 kn (tX4 kn2 ([])))) [0, 1, 2, 3, 4, 5, 6, 7] rfl) hDc hN 0 rfl rfl) rfl rfl hl.1 rfl (lv_room (Nat.le_of_ble_eq_true rfl)) (zat zrX4_become_0_ok 44 rfl) ⟨(Nat.le_of_ble_eq_true rfl), (Nat.le_of_ble_eq_true rfl)⟩)) (fun _ H locs hw hP hD _ hS => ?_)
  obtain ⟨hP, hD⟩ := pd_mk (bX4 a0 un kn o80 (bX4 a1 un2 kn2 n2_n [])) hP hD
  obtain rfl := h
  obtain ⟨hP9, hD9⟩ := pd_sub (bX4 a0 un kn o80 (bX4 a1 un2 kn2 n2_n [])) [0, 1, 2, 3, 4, 5, 6, 7, 8, 9] hP hD (by decide) rfl
  have hK9 := hK.sub (tys' := []) [] rfl
  rw [hQQ]
  exact W.vret hx hb hr (fun t ht hW => ⟨⟨(), rfl, trivial, by rw [ht]; exact hP9, va_K.moved hW.alike hK9, hD9⟩, hS.F ht⟩) hS.2.2 (zat zrX4_become_0_ok 45 rfl)
noncomputable def zrX4_begin_0 : List ZR := zc 0 true (.aload_n 0) 1 (zc 1 true (.iconst 0) 1 (zc 2 true (.putfield 9) 3 (zc 5 true (.aload_n 0) 1 (zc 6 true (.iconst 0) 1 (zc 7 true (.putfield 15) 3 (zc 10 true (.aload_n 0) 1 (zc 11 true (.iconst 0) 1 (zc 12 true (.putfield 18) 3 (zc 15 true (.iconst 0) 1 (zc 16 true (.istore_n 1) 1 (zc 17 true (.iload_n 1) 1 (zc 18 true (.aload_n 0) 1 (zc 19 true (.getfield 21) 3 (zc 22 true (.arraylength) 1 (zc 23 true (.if_icmp .ge 16) 3 (zc 26 true (.aload_n 0) 1 (zc 27 true (.getfield 21) 3 (zc 30 true (.iload_n 1) 1 (zc 31 true (.iconst 0) 1 (zc 32 true (.iastore) 1 (zc 33 true (.iinc 1 1) 3 (zc 36 true (.goto (-19)) 3 (zc 39 true (.iconst 0) 1 (zc 40 true (.istore_n 1) 1 (zc 41 true (.iload_n 1) 1 (zc 42 true (.aload_n 0) 1 (zc 43 true (.getfield 31) 3 (zc 46 true (.arraylength) 1 (zc 47 true (.if_icmp .ge 16) 3 (zc 50 true (.aload_n 0) 1 (zc 51 true (.getfield 31) 3 (zc 54 true (.iload_n 1) 1 (zc 55 true (.iconst (-1)) 1 (zc 56 true (.iastore) 1 (zc 57 true (.iinc 1 1) 3 (zc 60 true (.goto (-19)) 3 (zc 63 true (.return_) 1 ([]))))))))))))))))))))))))))))))))))))))
theorem zrX4_begin_0_ok : zck 0 ((zby cX4_begin).drop 0) zrX4_begin_0 = true := by decide +kernel
def vfX4_begin : List Cond := List.cons (.code yX4_begin cX4_begin 2 none) (apW [.fieldLink RX4 9 "HookPier$Now" "today" "I", .fieldLink RX4 15 "HookPier$Now" "seedNow" "I", .fieldLink RX4 18 "HookPier$Now" "soldFor" "I", .fieldLink RX4 21 "HookPier$Now" "stage" "[I", .fieldLink RX4 31 "HookPier$Now" "line" "[I"] (wsX40))
theorem ifX4_begin_X4 : ∀ w ∈ wsX40, w ∈ vfX4_begin := fun _ h => (List.mem_cons_of_mem _ (List.mem_append_right _ h))
theorem qfX4_begin : Good vfX4_begin := gd_cons (by decide +kernel) (gd_app (gd_dec (by decide +kernel) : Good [.fieldLink RX4 9 "HookPier$Now" "today" "I", .fieldLink RX4 15 "HookPier$Now" "seedNow" "I", .fieldLink RX4 18 "HookPier$Now" "soldFor" "I", .fieldLink RX4 21 "HookPier$Now" "stage" "[I", .fieldLink RX4 31 "HookPier$Now" "line" "[I"]) qsX4)
set_option maxHeartbeats 2000000 in
set_option maxRecDepth 100000 in
theorem kfX4_begin (l : Launch) (dC : Nat → ClassId) (dI : Nat → Nat → Nat) (a0 : Nat) (un : Nat → Nat) (kn : Nat → ClassId) (n_n : TX4_n) (sz : Nat) (out : TX4_n) (h : f_X4_begin n_n = some out) : KCv l yX4_begin vfX4_begin ({ frames := 0, cells := 0, slots := 0, locals := 0 }) (dC, dI) [.ref a0] sz (bX4 a0 un kn n_n []) (tX4 kn ([])) (fun _ => True) (bX4 a0 un kn out []) 0 0 := by
  refine Met.ofW (cc := cX4_begin) (maxL := 2) (ret := none) (by decide) rfl ?_
  intro p e s m args below meth c s₁ B0 hml hv
  obtain ⟨rfl, hsz, hP, hK, hD0, hN⟩ := hv
  have hx := B0.exec
  have hb := B0.bytes
  have hr := B0.returns
  have hts := atoms_spec (ws := vfX4_begin) B0.pre
  have hown : s.vm.findClass RX4 = some m.cls := findClass_of_methodNamed B0.named
  have hlocks := B0.notSynchronized
  subst hsz
  have hD := hD0.self (sz := s.heap.size)
  generalize hAe : va_A (bX4 a0 un kn n_n []) s.heap.size = A at hD ⊢
  have hA : ∀ q : Nat, s.heap.size ≤ q → A q := fun q h => by rw [← hAe]; exact Or.inr h
  have hS : va_S A s.heap s.heap [] := va_S.rf
  have hP : va_P (dC, dI) vwCl (bX4 a0 un kn n_n []) s.heap := hP
  have hl := lv_entry ([.ref a0]) (n := 2) (Nat.le_of_ble_eq_true rfl)
  rw [lg_entry_eq]
  generalize (lg_sl ([.ref a0]) ++ List.replicate (2 - (lg_sl ([.ref a0])).length) Slot.unset).toArray = ls at hl ⊢
  have hl : lv_has ls 2 [(0, .ref a0)] := hl
  refine W_q (fun QQ hQQ => ?_)
  rw [f_X4_begin] at h
  refine lv_aload_n hx hb (zat zrX4_begin_0_ok 0 rfl) rfl (lv_at hl 0 rfl) ?_
  refine lv_iconst (v := 0) hx hb (zat zrX4_begin_0_ok 1 rfl) (by decide) ?_
  refine va_put (D := (dC, dI)) (ci := 3) (v := .int 0) (ty := .int) (C := RX4) (T := TX4) (N := 7) hx hb hts ifX4_begin_X4 tyX4 tyX4_ok nmX4 hown hK hP hD hS 0 rfl rfl 0 (by decide) (hts (.fieldLink RX4 9 "HookPier$Now" "today" "I") (List.mem_of_getElem? (i := 1) rfl)) (fun _ h9 => h9) rfl (by decide +kernel) rfl rfl (Nat.le_of_ble_eq_true rfl) (zat zrX4_begin_0_ok 2 rfl) (fun H locs hP hD hS => ?_)
  obtain ⟨hP, hD⟩ := pd_mk (bX4 a0 un kn ((0 : Int32), n_n.2) []) hP hD
  refine lv_aload_n hx hb (zat zrX4_begin_0_ok 3 rfl) rfl (lv_at hl 0 rfl) ?_
  refine lv_iconst (v := 0) hx hb (zat zrX4_begin_0_ok 4 rfl) (by decide) ?_
  refine va_put (D := (dC, dI)) (ci := 3) (v := .int 0) (ty := .int) (C := RX4) (T := TX4) (N := 7) hx hb hts ifX4_begin_X4 tyX4 tyX4_ok nmX4 hown hK hP hD hS 0 rfl rfl 1 (by decide) (hts (.fieldLink RX4 15 "HookPier$Now" "seedNow" "I") (List.mem_of_getElem? (i := 2) rfl)) (fun _ h9 => h9) rfl (by decide +kernel) rfl rfl (Nat.le_of_ble_eq_true rfl) (zat zrX4_begin_0_ok 5 rfl) (fun H locs hP hD hS => ?_)
  obtain ⟨hP, hD⟩ := pd_mk (bX4 a0 un kn ((0 : Int32), (0 : Int32), n_n.2.2) []) hP hD
  refine lv_aload_n hx hb (zat zrX4_begin_0_ok 6 rfl) rfl (lv_at hl 0 rfl) ?_
  refine lv_iconst (v := 0) hx hb (zat zrX4_begin_0_ok 7 rfl) (by decide) ?_
  refine va_put (D := (dC, dI)) (ci := 3) (v := .int 0) (ty := .int) (C := RX4) (T := TX4) (N := 7) hx hb hts ifX4_begin_X4 tyX4 tyX4_ok nmX4 hown hK hP hD hS 0 rfl rfl 2 (by decide) (hts (.fieldLink RX4 18 "HookPier$Now" "soldFor" "I") (List.mem_of_getElem? (i := 3) rfl)) (fun _ h9 => h9) rfl (by decide +kernel) rfl rfl (Nat.le_of_ble_eq_true rfl) (zat zrX4_begin_0_ok 8 rfl) (fun H locs hP hD hS => ?_)
  obtain ⟨hP, hD⟩ := pd_mk (bX4 a0 un kn ((0 : Int32), (0 : Int32), (0 : Int32), n_n.2.2.2) []) hP hD
  refine lv_iconst (v := 0) hx hb (zat zrX4_begin_0_ok 9 rfl) (by decide) ?_
  refine lv_istore_n (lv' := [(1, .int 0), (0, .ref a0)]) hx hb (zat zrX4_begin_0_ok 10 rfl) rfl hl (by decide) rfl (fun ls hl => ?_)
  have L17 : ∀ (n17 : Nat) (v17_l1 : Int32) (v17_n_n : TX4_n) (H : Heap) (locs : List Loc) (ls : Array Slot), f_X4_begin_L17 n17 v17_l1 v17_n_n = some out → va_P (dC, dI) vwCl (bX4 a0 un kn v17_n_n []) H → va_D A (bX4 a0 un kn v17_n_n []) → va_S A s.heap H locs → lv_has ls 2 [(1, .int v17_l1), (0, .ref a0)] → W p l e (headSpec vfX4_begin { frames := 0, cells := 0, slots := 0, locals := 0 }).room s m ([.ref a0]).toArray below meth c H locs 0 0 QQ (F0 m 17 ls []) := by
    intro n17
    induction n17 with
    | zero =>
      intro v17_l1 v17_n_n H locs ls h  _ _ _ _
      rw [f_X4_begin_L17] at h
      cases h
    | succ n17 ih17 =>
      intro v17_l1 v17_n_n H locs ls h  hP hD hS hl
      rw [f_X4_begin_L17] at h
      refine lv_iload_n hx hb (zat zrX4_begin_0_ok 11 rfl) rfl (lv_at hl 0 rfl) ?_
      refine lv_aload_n hx hb (zat zrX4_begin_0_ok 12 rfl) rfl (lv_at hl 1 rfl) ?_
      refine va_get (D := (dC, dI)) (ci := 3) (v := .ref (un 0)) (C := RX4) (T := TX4) (N := 7) hx hb hts ifX4_begin_X4 hown hK hP 0 rfl rfl 3 (by decide) (hts (.fieldLink RX4 21 "HookPier$Now" "stage" "[I") (List.mem_of_getElem? (i := 4) rfl)) (fun _ h9 => h9) rfl (zat zrX4_begin_0_ok 13 rfl) ?_
      refine va_alen (v := 6) hx hb hK hP 1 0 rfl rfl rfl (zat zrX4_begin_0_ok 14 rfl) ?_
      refine lv_icmp_ge (tgt := 39) hx hb (zat zrX4_begin_0_ok 15 rfl) (by decide) (fun c23 => ?_) (fun c23 => ?_)
      · have h := (if_pos c23).symm.trans h
        refine lv_iconst (v := 0) hx hb (zat zrX4_begin_0_ok 23 rfl) (by decide) ?_
        refine lv_istore_n (lv' := [(1, .int 0), (0, .ref a0)]) hx hb (zat zrX4_begin_0_ok 24 rfl) rfl hl (by decide) rfl (fun ls hl => ?_)
        have L41 : ∀ (n41 : Nat) (v41_l1 : Int32) (v41_n_n : TX4_n) (H : Heap) (locs : List Loc) (ls : Array Slot), f_X4_begin_L41 n41 v41_l1 v41_n_n = some out → va_P (dC, dI) vwCl (bX4 a0 un kn v41_n_n []) H → va_D A (bX4 a0 un kn v41_n_n []) → va_S A s.heap H locs → lv_has ls 2 [(1, .int v41_l1), (0, .ref a0)] → W p l e (headSpec vfX4_begin { frames := 0, cells := 0, slots := 0, locals := 0 }).room s m ([.ref a0]).toArray below meth c H locs 0 0 QQ (F0 m 41 ls []) := by
          intro n41
          induction n41 with
          | zero =>
            intro v41_l1 v41_n_n H locs ls h  _ _ _ _
            rw [f_X4_begin_L41] at h
            cases h
          | succ n41 ih41 =>
            intro v41_l1 v41_n_n H locs ls h  hP hD hS hl
            rw [f_X4_begin_L41] at h
            refine lv_iload_n hx hb (zat zrX4_begin_0_ok 25 rfl) rfl (lv_at hl 0 rfl) ?_
            refine lv_aload_n hx hb (zat zrX4_begin_0_ok 26 rfl) rfl (lv_at hl 1 rfl) ?_
            refine va_get (D := (dC, dI)) (ci := 3) (v := .ref (un 3)) (C := RX4) (T := TX4) (N := 7) hx hb hts ifX4_begin_X4 hown hK hP 0 rfl rfl 6 (by decide) (hts (.fieldLink RX4 31 "HookPier$Now" "line" "[I") (List.mem_of_getElem? (i := 5) rfl)) (fun _ h9 => h9) rfl (zat zrX4_begin_0_ok 27 rfl) ?_
            refine va_alen (v := 5) hx hb hK hP 4 3 rfl rfl rfl (zat zrX4_begin_0_ok 28 rfl) ?_
            refine lv_icmp_ge (tgt := 63) hx hb (zat zrX4_begin_0_ok 29 rfl) (by decide) (fun c47 => ?_) (fun c47 => ?_)
            · have h := (if_pos c47).symm.trans h
              obtain rfl := Option.some.inj h
              obtain ⟨hP9, hD9⟩ := pd_sub (bX4 a0 un kn v41_n_n []) [0, 1, 2, 3, 4] hP hD (by decide) rfl
              have hK9 := hK.sub (tys' := []) [] rfl
              rw [hQQ]
              exact W.vret hx hb hr (fun t ht hW => ⟨⟨(), rfl, trivial, by rw [ht]; exact hP9, va_K.moved hW.alike hK9, hD9⟩, hS.F ht⟩) hS.2.2 (zat zrX4_begin_0_ok 37 rfl)
            · have h := (if_neg c47).symm.trans h
              refine lv_aload_n hx hb (zat zrX4_begin_0_ok 30 rfl) rfl (lv_at hl 1 rfl) ?_
              refine va_get (D := (dC, dI)) (ci := 3) (v := .ref (un 3)) (C := RX4) (T := TX4) (N := 7) hx hb hts ifX4_begin_X4 hown hK hP 0 rfl rfl 6 (by decide) (hts (.fieldLink RX4 31 "HookPier$Now" "line" "[I") (List.mem_of_getElem? (i := 5) rfl)) (fun _ h9 => h9) rfl (zat zrX4_begin_0_ok 31 rfl) ?_
              refine lv_iload_n hx hb (zat zrX4_begin_0_ok 32 rfl) rfl (lv_at hl 0 rfl) ?_
              refine lv_iconst (v := (-1)) hx hb (zat zrX4_begin_0_ok 33 rfl) (by decide) ?_
              obtain ⟨hg56, h⟩ := gA_of h
              refine va_iast hx hb hK hP hD hS 4 3 rfl rfl hg56 (zat zrX4_begin_0_ok 34 rfl) (fun H locs hP hD hS => ?_)
              obtain ⟨hP, hD⟩ := pd_mk (bX4 a0 un kn (v41_n_n.1, v41_n_n.2.1, v41_n_n.2.2.1, v41_n_n.2.2.2.1, v41_n_n.2.2.2.2.1, v41_n_n.2.2.2.2.2.1, (upd v41_n_n.2.2.2.2.2.2 (v41_l1).toNatClampNeg (-1 : Int32))) []) hP hD
              refine lv_iinc (v := (v41_l1 + (1 : Int32))) (lv' := [(1, .int (v41_l1 + (1 : Int32))), (0, .ref a0)]) hx hb (zat zrX4_begin_0_ok 35 rfl) hl (k := 0) rfl rfl (by decide) rfl (fun ls hl => ?_)
              refine lv_goto (tgt := 41) hx hb (zat zrX4_begin_0_ok 36 rfl) (by decide) ?_
              exact ih41 (v41_l1 + (1 : Int32)) (v41_n_n.1, v41_n_n.2.1, v41_n_n.2.2.1, v41_n_n.2.2.2.1, v41_n_n.2.2.2.2.1, v41_n_n.2.2.2.2.2.1, (upd v41_n_n.2.2.2.2.2.2 (v41_l1).toNatClampNeg (-1 : Int32))) H _ ls h  hP hD hS (lv_sub hl [0, 1] rfl)
        exact L41 FU (0 : Int32) v17_n_n H _ ls h  hP hD hS (lv_sub hl [0, 1] rfl)
      · have h := (if_neg c23).symm.trans h
        refine lv_aload_n hx hb (zat zrX4_begin_0_ok 16 rfl) rfl (lv_at hl 1 rfl) ?_
        refine va_get (D := (dC, dI)) (ci := 3) (v := .ref (un 0)) (C := RX4) (T := TX4) (N := 7) hx hb hts ifX4_begin_X4 hown hK hP 0 rfl rfl 3 (by decide) (hts (.fieldLink RX4 21 "HookPier$Now" "stage" "[I") (List.mem_of_getElem? (i := 4) rfl)) (fun _ h9 => h9) rfl (zat zrX4_begin_0_ok 17 rfl) ?_
        refine lv_iload_n hx hb (zat zrX4_begin_0_ok 18 rfl) rfl (lv_at hl 0 rfl) ?_
        refine lv_iconst (v := 0) hx hb (zat zrX4_begin_0_ok 19 rfl) (by decide) ?_
        obtain ⟨hg32, h⟩ := gA_of h
        refine va_iast hx hb hK hP hD hS 1 0 rfl rfl hg32 (zat zrX4_begin_0_ok 20 rfl) (fun H locs hP hD hS => ?_)
        obtain ⟨hP, hD⟩ := pd_mk (bX4 a0 un kn (v17_n_n.1, v17_n_n.2.1, v17_n_n.2.2.1, (upd v17_n_n.2.2.2.1 (v17_l1).toNatClampNeg (0 : Int32)), v17_n_n.2.2.2.2) []) hP hD
        refine lv_iinc (v := (v17_l1 + (1 : Int32))) (lv' := [(1, .int (v17_l1 + (1 : Int32))), (0, .ref a0)]) hx hb (zat zrX4_begin_0_ok 21 rfl) hl (k := 0) rfl rfl (by decide) rfl (fun ls hl => ?_)
        refine lv_goto (tgt := 17) hx hb (zat zrX4_begin_0_ok 22 rfl) (by decide) ?_
        exact ih17 (v17_l1 + (1 : Int32)) (v17_n_n.1, v17_n_n.2.1, v17_n_n.2.2.1, (upd v17_n_n.2.2.2.1 (v17_l1).toNatClampNeg (0 : Int32)), v17_n_n.2.2.2.2) H _ ls h  hP hD hS (lv_sub hl [0, 1] rfl)
  exact L17 FU (0 : Int32) ((0 : Int32), (0 : Int32), (0 : Int32), n_n.2.2.2) H _ ls h  hP hD hS (lv_sub hl [0, 1] rfl)
noncomputable def zrX4_draw_0 : List ZR := zc 0 true (.aload_n 0) 1 (zc 1 true (.bipush 75) 2 (zc 3 true (.aload_n 0) 1 (zc 4 true (.getfield 15) 3 (zc 7 true (.imul) 1 (zc 8 true (.bipush 74) 2 (zc 10 true (.iadd) 1 (zc 11 true (.ldc 57) 2 (zc 13 true (.irem) 1 (zc 14 true (.putfield 15) 3 (zc 17 true (.aload_n 0) 1 (zc 18 true (.getfield 15) 3 (zc 21 true (.bipush 100) 2 (zc 23 true (.irem) 1 (zc 24 true (.ireturn) 1 ([])))))))))))))))
theorem zrX4_draw_0_ok : zck 0 ((zby cX4_draw).drop 0) zrX4_draw_0 = true := by decide +kernel
def vfX4_draw : List Cond := List.cons (.code yX4_draw cX4_draw 1 (some .int)) (apW [.fieldLink RX4 15 "HookPier$Now" "seedNow" "I", .constant RX4 57 (65537)] (wsX40))
theorem ifX4_draw_X4 : ∀ w ∈ wsX40, w ∈ vfX4_draw := fun _ h => (List.mem_cons_of_mem _ (List.mem_append_right _ h))
theorem qfX4_draw : Good vfX4_draw := gd_cons (by decide +kernel) (gd_app (gd_dec (by decide +kernel) : Good [.fieldLink RX4 15 "HookPier$Now" "seedNow" "I", .constant RX4 57 (65537)]) qsX4)
set_option maxHeartbeats 2000000 in
set_option maxRecDepth 100000 in
theorem kfX4_draw (l : Launch) (dC : Nat → ClassId) (dI : Nat → Nat → Nat) (a0 : Nat) (un : Nat → Nat) (kn : Nat → ClassId) (n_n : TX4_n) (sz : Nat) (out : (Int32 × TX4_n)) (h : f_X4_draw n_n = out) : KCi l yX4_draw vfX4_draw ({ frames := 0, cells := 0, slots := 0, locals := 0 }) (dC, dI) [.ref a0] sz (bX4 a0 un kn n_n []) (tX4 kn ([])) (fun (r : Int32) _ => r = out.1) (bX4 a0 un kn out.2 []) 0 0 := by
  refine Met.ofW (cc := cX4_draw) (maxL := 1) (ret := (some .int)) (by decide) rfl ?_
  intro p e s m args below meth c s₁ B0 hml hv
  obtain ⟨rfl, hsz, hP, hK, hD0, hN⟩ := hv
  have hx := B0.exec
  have hb := B0.bytes
  have hr := B0.returns
  have hts := atoms_spec (ws := vfX4_draw) B0.pre
  have hown : s.vm.findClass RX4 = some m.cls := findClass_of_methodNamed B0.named
  have hlocks := B0.notSynchronized
  subst hsz
  have hD := hD0.self (sz := s.heap.size)
  generalize hAe : va_A (bX4 a0 un kn n_n []) s.heap.size = A at hD ⊢
  have hA : ∀ q : Nat, s.heap.size ≤ q → A q := fun q h => by rw [← hAe]; exact Or.inr h
  have hS : va_S A s.heap s.heap [] := va_S.rf
  have hP : va_P (dC, dI) vwCl (bX4 a0 un kn n_n []) s.heap := hP
  have hl := lv_entry ([.ref a0]) (n := 1) (Nat.le_of_ble_eq_true rfl)
  rw [lg_entry_eq]
  generalize (lg_sl ([.ref a0]) ++ List.replicate (1 - (lg_sl ([.ref a0])).length) Slot.unset).toArray = ls at hl ⊢
  have hl : lv_has ls 1 [(0, .ref a0)] := hl
  refine W_q (fun QQ hQQ => ?_)
  rw [f_X4_draw] at h
  refine lv_aload_n hx hb (zat zrX4_draw_0_ok 0 rfl) rfl (lv_at hl 0 rfl) ?_
  refine lv_bipush (v := 75) hx hb (zat zrX4_draw_0_ok 1 rfl) (by decide) ?_
  refine lv_aload_n hx hb (zat zrX4_draw_0_ok 2 rfl) rfl (lv_at hl 0 rfl) ?_
  refine va_get (D := (dC, dI)) (ci := 3) (v := .int n_n.2.1) (C := RX4) (T := TX4) (N := 7) hx hb hts ifX4_draw_X4 hown hK hP 0 rfl rfl 1 (by decide) (hts (.fieldLink RX4 15 "HookPier$Now" "seedNow" "I") (List.mem_of_getElem? (i := 1) rfl)) (fun _ h9 => h9) rfl (zat zrX4_draw_0_ok 3 rfl) ?_
  refine lv_imul hx hb (zat zrX4_draw_0_ok 4 rfl) ?_
  refine lv_bipush (v := 74) hx hb (zat zrX4_draw_0_ok 5 rfl) (by decide) ?_
  refine lv_iadd hx hb (zat zrX4_draw_0_ok 6 rfl) ?_
  refine lv_ldc hx hb hown (hts (.constant RX4 57 (65537)) (List.mem_of_getElem? (i := 2) rfl)) (zat zrX4_draw_0_ok 7 rfl) ?_
  refine lv_irem hx hb (zat zrX4_draw_0_ok 8 rfl) (by decide) ?_
  refine lv_topi (fun z13 ez13 => ?_)
  have h := nm_of h z13 ez13
  refine va_put (D := (dC, dI)) (ci := 3) (v := .int z13) (ty := .int) (C := RX4) (T := TX4) (N := 7) hx hb hts ifX4_draw_X4 tyX4 tyX4_ok nmX4 hown hK hP hD hS 0 rfl rfl 1 (by decide) (hts (.fieldLink RX4 15 "HookPier$Now" "seedNow" "I") (List.mem_of_getElem? (i := 1) rfl)) (fun _ h9 => h9) rfl (by decide +kernel) rfl rfl (Nat.le_of_ble_eq_true rfl) (zat zrX4_draw_0_ok 9 rfl) (fun H locs hP hD hS => ?_)
  obtain ⟨hP, hD⟩ := pd_mk (bX4 a0 un kn (n_n.1, z13, n_n.2.2) []) hP hD
  refine lv_aload_n hx hb (zat zrX4_draw_0_ok 10 rfl) rfl (lv_at hl 0 rfl) ?_
  refine va_get (D := (dC, dI)) (ci := 3) (v := .int z13) (C := RX4) (T := TX4) (N := 7) hx hb hts ifX4_draw_X4 hown hK hP 0 rfl rfl 1 (by decide) (hts (.fieldLink RX4 15 "HookPier$Now" "seedNow" "I") (List.mem_of_getElem? (i := 1) rfl)) (fun _ h9 => h9) rfl (zat zrX4_draw_0_ok 11 rfl) ?_
  refine lv_bipush (v := 100) hx hb (zat zrX4_draw_0_ok 12 rfl) (by decide) ?_
  refine lv_irem hx hb (zat zrX4_draw_0_ok 13 rfl) (by decide) ?_
  obtain rfl := h
  obtain ⟨hP9, hD9⟩ := pd_sub (bX4 a0 un kn (n_n.1, z13, n_n.2.2) []) [0, 1, 2, 3, 4] hP hD (by decide) rfl
  have hK9 := hK.sub (tys' := []) [] rfl
  rw [hQQ]
  exact W.iret (v := (z13 - z13 / (100 : Int32) * (100 : Int32))) hx hb hr (fun t ht hW => ⟨⟨(z13 - z13 / (100 : Int32) * (100 : Int32)), (), rfl, rfl, by rw [ht]; exact hP9, va_K.moved hW.alike hK9, hD9⟩, hS.F ht⟩) hS.2.2 (zat zrX4_draw_0_ok 14 rfl)
noncomputable def zrX2_keep_0 : List ZR := zc 0 true (.aload_n 0) 1 (zc 1 true (.getfield 11) 3 (zc 4 true (.aload_n 0) 1 (zc 5 true (.getfield 20) 3 (zc 8 true (.aload_n 0) 1 (zc 9 true (.getfield 24) 3 (zc 12 true (.iadd) 1 (zc 13 true (.bipush 16) 2 (zc 15 true (.irem) 1 (zc 16 true (.aaload) 1 (zc 17 true (.aload_n 1) 1 (zc 18 true (.invokevirtual 31) 3 (zc 21 true (.aload_n 0) 1 (zc 22 true (.getfield 24) 3 (zc 25 true (.bipush 16) 2 (zc 27 true (.if_icmp .ge 16) 3 (zc 30 true (.aload_n 0) 1 (zc 31 true (.dup) 1 (zc 32 true (.getfield 24) 3 (zc 35 true (.iconst 1) 1 (zc 36 true (.iadd) 1 (zc 37 true (.putfield 24) 3 (zc 40 true (.goto 16) 3 (zc 43 true (.aload_n 0) 1 (zc 44 true (.aload_n 0) 1 (zc 45 true (.getfield 20) 3 (zc 48 true (.iconst 1) 1 (zc 49 true (.iadd) 1 (zc 50 true (.bipush 16) 2 (zc 52 true (.irem) 1 (zc 53 true (.putfield 20) 3 (zc 56 true (.return_) 1 ([]))))))))))))))))))))))))))))))))
theorem zrX2_keep_0_ok : zck 0 ((zby cX2_keep).drop 0) zrX2_keep_0 = true := by decide +kernel
def vfX2_keep : List Cond := List.cons (.code yX2_keep cX2_keep 2 none) (apW [.fieldLink RX2 11 "HookPier$History" "kept" "[LHookPier$Now;", .fieldLink RX2 20 "HookPier$History" "oldest" "I", .fieldLink RX2 24 "HookPier$History" "acts" "I", .methodLink RX2 31 yX4_become, .instanceMethod yX4_become, .selects RX4 yX4_become yX4_become, .initialized RX4] (apW wsX20 (vfX4_become)))
theorem ifX2_keep_X2 : ∀ w ∈ wsX20, w ∈ vfX2_keep := fun _ h => (List.mem_cons_of_mem _ (List.mem_append_right _ (List.mem_append_left _ h)))
theorem qfX2_keep : Good vfX2_keep := gd_cons (by decide +kernel) (gd_app (gd_dec (by decide +kernel) : Good [.fieldLink RX2 11 "HookPier$History" "kept" "[LHookPier$Now;", .fieldLink RX2 20 "HookPier$History" "oldest" "I", .fieldLink RX2 24 "HookPier$History" "acts" "I", .methodLink RX2 31 yX4_become, .instanceMethod yX4_become, .selects RX4 yX4_become yX4_become, .initialized RX4]) (gd_app qsX2 qfX4_become))
theorem gfX2_keep_0 : GoodIn vfX2_keep (wsV RX2 31 RX4 yX4_become vfX4_become) := goodIn_app (goodIn_r [.methodLink RX2 31 yX4_become, .instanceMethod yX4_become, .selects RX4 yX4_become yX4_become, .initialized RX4] [4, 5, 6, 7] rfl (by decide +kernel)) (goodIn_m (fun _ h => (List.mem_cons_of_mem _ (List.mem_append_right _ (List.mem_append_right _ h)))) qfX4_become)
set_option maxHeartbeats 2000000 in
set_option maxRecDepth 100000 in
theorem kfX2_keep (l : Launch) (dC : Nat → ClassId) (dI : Nat → Nat → Nat) (a0 : Nat) (a1 : Nat) (a2 : Nat) (a3 : Nat) (un : Nat → Nat) (kn : Nat → ClassId) (un2 : Nat → Nat) (kn2 : Nat → ClassId) (h_h : TX2_h) (g9 : Value) (n_n : TX4_n) (n2_n : TX4_n) (cB12 : ClassId) (kf13 : Nat → Option Nat) (sz : Nat) (hk : kf13 (((h_h.1 + h_h.2.1) - (h_h.1 + h_h.2.1) / (16 : Int32) * (16 : Int32))).toNatClampNeg = some a2) (out : (TX2_h × TX4_n)) (h : f_X2_keep h_h n_n n2_n = some out) : KCv l yX2_keep vfX2_keep ({ frames := 3, cells := 0, slots := 0, locals := 82 }) (dC, dI) [.ref a0, .ref a1] sz ((a0, .inr (2, [.ref a3, g9, .int h_h.1, .int h_h.2.1, .int h_h.2.2])) :: bX4 a1 un kn n_n (bX4 a2 un2 kn2 n2_n ([(a3, .inl (cB12, 16, .inr (.inr (.inr (.inr kf13)))))]))) (tX4 kn (tX4 kn2 ((cB12, .object RX4) :: []))) (fun _ => True) ((a0, .inr (2, [.ref a3, g9, .int out.1.1, .int out.1.2.1, .int out.1.2.2])) :: bX4 a1 un kn n_n (bX4 a2 un2 kn2 out.2 ([(a3, .inl (cB12, 16, .inr (.inr (.inr (.inr kf13)))))]))) 0 0 := by
  refine Met.ofW (cc := cX2_keep) (maxL := 2) (ret := none) (by decide) rfl ?_
  intro p e s m args below meth c s₁ B0 hml hv
  obtain ⟨rfl, hsz, hP, hK, hD0, hN⟩ := hv
  have hx := B0.exec
  have hb := B0.bytes
  have hr := B0.returns
  have hts := atoms_spec (ws := vfX2_keep) B0.pre
  have hown : s.vm.findClass RX2 = some m.cls := findClass_of_methodNamed B0.named
  have hlocks := B0.notSynchronized
  subst hsz
  have hD := hD0.self (sz := s.heap.size)
  generalize hAe : va_A ((a0, .inr (2, [.ref a3, g9, .int h_h.1, .int h_h.2.1, .int h_h.2.2])) :: bX4 a1 un kn n_n (bX4 a2 un2 kn2 n2_n ([(a3, .inl (cB12, 16, .inr (.inr (.inr (.inr kf13)))))]))) s.heap.size = A at hD ⊢
  have hA : ∀ q : Nat, s.heap.size ≤ q → A q := fun q h => by rw [← hAe]; exact Or.inr h
  have hS : va_S A s.heap s.heap [] := va_S.rf
  have hP : va_P (dC, dI) vwCl ((a0, .inr (2, [.ref a3, g9, .int h_h.1, .int h_h.2.1, .int h_h.2.2])) :: bX4 a1 un kn n_n (bX4 a2 un2 kn2 n2_n ([(a3, .inl (cB12, 16, .inr (.inr (.inr (.inr kf13)))))]))) s.heap := hP
  have hl := lv_entry ([.ref a0, .ref a1]) (n := 2) (Nat.le_of_ble_eq_true rfl)
  rw [lg_entry_eq]
  generalize (lg_sl ([.ref a0, .ref a1]) ++ List.replicate (2 - (lg_sl ([.ref a0, .ref a1])).length) Slot.unset).toArray = ls at hl ⊢
  have hl : lv_has ls 2 [(0, .ref a0), (1, .ref a1)] := hl
  refine W_q (fun QQ hQQ => ?_)
  rw [f_X2_keep] at h
  refine lv_aload_n hx hb (zat zrX2_keep_0_ok 0 rfl) rfl (lv_at hl 0 rfl) ?_
  refine va_get (D := (dC, dI)) (ci := 2) (v := .ref a3) (C := RX2) (T := TX2) (N := 5) hx hb hts ifX2_keep_X2 hown hK hP 0 rfl rfl 0 (by decide) (hts (.fieldLink RX2 11 "HookPier$History" "kept" "[LHookPier$Now;") (List.mem_of_getElem? (i := 1) rfl)) (fun _ h9 => h9) rfl (zat zrX2_keep_0_ok 1 rfl) ?_
  refine lv_aload_n hx hb (zat zrX2_keep_0_ok 2 rfl) rfl (lv_at hl 0 rfl) ?_
  refine va_get (D := (dC, dI)) (ci := 2) (v := .int h_h.1) (C := RX2) (T := TX2) (N := 5) hx hb hts ifX2_keep_X2 hown hK hP 0 rfl rfl 2 (by decide) (hts (.fieldLink RX2 20 "HookPier$History" "oldest" "I") (List.mem_of_getElem? (i := 2) rfl)) (fun _ h9 => h9) rfl (zat zrX2_keep_0_ok 3 rfl) ?_
  refine lv_aload_n hx hb (zat zrX2_keep_0_ok 4 rfl) rfl (lv_at hl 0 rfl) ?_
  refine va_get (D := (dC, dI)) (ci := 2) (v := .int h_h.2.1) (C := RX2) (T := TX2) (N := 5) hx hb hts ifX2_keep_X2 hown hK hP 0 rfl rfl 3 (by decide) (hts (.fieldLink RX2 24 "HookPier$History" "acts" "I") (List.mem_of_getElem? (i := 3) rfl)) (fun _ h9 => h9) rfl (zat zrX2_keep_0_ok 5 rfl) ?_
  refine lv_iadd hx hb (zat zrX2_keep_0_ok 6 rfl) ?_
  refine lv_bipush (v := 16) hx hb (zat zrX2_keep_0_ok 7 rfl) (by decide) ?_
  refine lv_irem hx hb (zat zrX2_keep_0_ok 8 rfl) (by decide) ?_
  obtain ⟨hg16, h⟩ := gA_of h
  refine va_aldq hx hb hK hP 11 8 rfl rfl hg16 (zat zrX2_keep_0_ok 9 rfl) ?_
  rw [show va_rf (kf13 (((h_h.1 + h_h.2.1) - (h_h.1 + h_h.2.1) / (16 : Int32) * (16 : Int32))).toNatClampNeg) = .ref a2 from by rw [hk]; rfl]
  refine lv_aload_n hx hb (zat zrX2_keep_0_ok 10 rfl) rfl (lv_at hl 1 rfl) ?_
  obtain ⟨o18, eo18⟩ : ∃ o, o = f_X4_become n2_n n_n := ⟨_, rfl⟩
  have h := nm_of h o18 eo18
  refine ck_v (wc := (bX4 a2 un2 kn2 n2_n (bX4 a1 un kn n_n []))) (wr := ([(a0, .inr (2, [.ref a3, g9, .int h_h.1, .int h_h.2.1, .int h_h.2.2])), (a3, .inl (cB12, 16, .inr (.inr (.inr (.inr kf13)))))])) hP hD hK hS hA [6, 7, 8, 9, 10, 1, 2, 3, 4, 5] [0, 11] rfl rfl (by decide) (by decide) (by decide) (fun hPc hDc => (va_runV (As := [.ref a1]) (rest := []) ⟨hx, hb, hml, hown, hts⟩ (kfX4_become l dC dI a2 a1 un2 kn2 un kn n2_n n_n s.heap.size o18 eo18.symm) (cwV 1 hts gfX2_keep_0 rfl rfl rfl (by decide +kernel) ⟨(Nat.le_of_ble_eq_true rfl), (Nat.le_of_ble_eq_true rfl)⟩) (PV hPc (hK.sub (tys' := (tX4 kn2 (tX4 kn ([])))) [4, 5, 6, 7, 0, 1, 2, 3] rfl) hDc hN 0 rfl rfl) rfl rfl hl.1 rfl (lv_room (Nat.le_of_ble_eq_true rfl)) (zat zrX2_keep_0_ok 11 rfl) ⟨(Nat.le_of_ble_eq_true rfl), (Nat.le_of_ble_eq_true rfl)⟩)) (fun _ H locs hw hP hD _ hS => ?_)
  obtain ⟨hP, hD⟩ := pd_mk ((a0, .inr (2, [.ref a3, g9, .int h_h.1, .int h_h.2.1, .int h_h.2.2])) :: (a3, .inl (cB12, 16, .inr (.inr (.inr (.inr kf13))))) :: bX4 a2 un2 kn2 o18 (bX4 a1 un kn n_n [])) hP hD
  refine lv_aload_n hx hb (zat zrX2_keep_0_ok 12 rfl) rfl (lv_at hl 0 rfl) ?_
  refine va_get (D := (dC, dI)) (ci := 2) (v := .int h_h.2.1) (C := RX2) (T := TX2) (N := 5) hx hb hts ifX2_keep_X2 hown hK hP 0 rfl rfl 3 (by decide) (hts (.fieldLink RX2 24 "HookPier$History" "acts" "I") (List.mem_of_getElem? (i := 3) rfl)) (fun _ h9 => h9) rfl (zat zrX2_keep_0_ok 13 rfl) ?_
  refine lv_bipush (v := 16) hx hb (zat zrX2_keep_0_ok 14 rfl) (by decide) ?_
  refine lv_icmp_ge (tgt := 43) hx hb (zat zrX2_keep_0_ok 15 rfl) (by decide) (fun c27 => ?_) (fun c27 => ?_)
  · have h := (if_pos c27).symm.trans h
    refine lv_aload_n hx hb (zat zrX2_keep_0_ok 23 rfl) rfl (lv_at hl 0 rfl) ?_
    refine lv_aload_n hx hb (zat zrX2_keep_0_ok 24 rfl) rfl (lv_at hl 0 rfl) ?_
    refine va_get (D := (dC, dI)) (ci := 2) (v := .int h_h.1) (C := RX2) (T := TX2) (N := 5) hx hb hts ifX2_keep_X2 hown hK hP 0 rfl rfl 2 (by decide) (hts (.fieldLink RX2 20 "HookPier$History" "oldest" "I") (List.mem_of_getElem? (i := 2) rfl)) (fun _ h9 => h9) rfl (zat zrX2_keep_0_ok 25 rfl) ?_
    refine lv_iconst (v := 1) hx hb (zat zrX2_keep_0_ok 26 rfl) (by decide) ?_
    refine lv_iadd hx hb (zat zrX2_keep_0_ok 27 rfl) ?_
    refine lv_bipush (v := 16) hx hb (zat zrX2_keep_0_ok 28 rfl) (by decide) ?_
    refine lv_irem hx hb (zat zrX2_keep_0_ok 29 rfl) (by decide) ?_
    refine va_put (D := (dC, dI)) (ci := 2) (v := .int ((h_h.1 + (1 : Int32)) - (h_h.1 + (1 : Int32)) / (16 : Int32) * (16 : Int32))) (ty := .int) (C := RX2) (T := TX2) (N := 5) hx hb hts ifX2_keep_X2 tyX2 tyX2_ok nmX2 hown hK hP hD hS 0 rfl rfl 2 (by decide) (hts (.fieldLink RX2 20 "HookPier$History" "oldest" "I") (List.mem_of_getElem? (i := 2) rfl)) (fun _ h9 => h9) rfl (by decide +kernel) rfl rfl (Nat.le_of_ble_eq_true rfl) (zat zrX2_keep_0_ok 30 rfl) (fun H locs hP hD hS => ?_)
    obtain ⟨hP, hD⟩ := pd_mk ((a0, .inr (2, [.ref a3, g9, .int ((h_h.1 + (1 : Int32)) - (h_h.1 + (1 : Int32)) / (16 : Int32) * (16 : Int32)), .int h_h.2.1, .int h_h.2.2])) :: (a3, .inl (cB12, 16, .inr (.inr (.inr (.inr kf13))))) :: bX4 a2 un2 kn2 o18 (bX4 a1 un kn n_n [])) hP hD
    obtain rfl := Option.some.inj h
    obtain ⟨hP9, hD9⟩ := pd_sub ((a0, .inr (2, [.ref a3, g9, .int ((h_h.1 + (1 : Int32)) - (h_h.1 + (1 : Int32)) / (16 : Int32) * (16 : Int32)), .int h_h.2.1, .int h_h.2.2])) :: bX4 a1 un kn n_n (bX4 a2 un2 kn2 o18 ([(a3, .inl (cB12, 16, .inr (.inr (.inr (.inr kf13)))))]))) [0, 7, 8, 9, 10, 11, 2, 3, 4, 5, 6, 1] hP hD (by decide) rfl
    have hK9 := hK.sub (tys' := []) [] rfl
    rw [hQQ]
    exact W.vret hx hb hr (fun t ht hW => ⟨⟨(), rfl, trivial, by rw [ht]; exact hP9, va_K.moved hW.alike hK9, hD9⟩, hS.F ht⟩) hS.2.2 (zat zrX2_keep_0_ok 31 rfl)
  · have h := (if_neg c27).symm.trans h
    refine lv_aload_n hx hb (zat zrX2_keep_0_ok 16 rfl) rfl (lv_at hl 0 rfl) ?_
    refine lv_dup hx hb (zat zrX2_keep_0_ok 17 rfl) rfl ?_
    refine va_get (D := (dC, dI)) (ci := 2) (v := .int h_h.2.1) (C := RX2) (T := TX2) (N := 5) hx hb hts ifX2_keep_X2 hown hK hP 0 rfl rfl 3 (by decide) (hts (.fieldLink RX2 24 "HookPier$History" "acts" "I") (List.mem_of_getElem? (i := 3) rfl)) (fun _ h9 => h9) rfl (zat zrX2_keep_0_ok 18 rfl) ?_
    refine lv_iconst (v := 1) hx hb (zat zrX2_keep_0_ok 19 rfl) (by decide) ?_
    refine lv_iadd hx hb (zat zrX2_keep_0_ok 20 rfl) ?_
    refine va_put (D := (dC, dI)) (ci := 2) (v := .int (h_h.2.1 + (1 : Int32))) (ty := .int) (C := RX2) (T := TX2) (N := 5) hx hb hts ifX2_keep_X2 tyX2 tyX2_ok nmX2 hown hK hP hD hS 0 rfl rfl 3 (by decide) (hts (.fieldLink RX2 24 "HookPier$History" "acts" "I") (List.mem_of_getElem? (i := 3) rfl)) (fun _ h9 => h9) rfl (by decide +kernel) rfl rfl (Nat.le_of_ble_eq_true rfl) (zat zrX2_keep_0_ok 21 rfl) (fun H locs hP hD hS => ?_)
    obtain ⟨hP, hD⟩ := pd_mk ((a0, .inr (2, [.ref a3, g9, .int h_h.1, .int (h_h.2.1 + (1 : Int32)), .int h_h.2.2])) :: (a3, .inl (cB12, 16, .inr (.inr (.inr (.inr kf13))))) :: bX4 a2 un2 kn2 o18 (bX4 a1 un kn n_n [])) hP hD
    refine lv_goto (tgt := 56) hx hb (zat zrX2_keep_0_ok 22 rfl) (by decide) ?_
    obtain rfl := Option.some.inj h
    obtain ⟨hP9, hD9⟩ := pd_sub ((a0, .inr (2, [.ref a3, g9, .int h_h.1, .int (h_h.2.1 + (1 : Int32)), .int h_h.2.2])) :: bX4 a1 un kn n_n (bX4 a2 un2 kn2 o18 ([(a3, .inl (cB12, 16, .inr (.inr (.inr (.inr kf13)))))]))) [0, 7, 8, 9, 10, 11, 2, 3, 4, 5, 6, 1] hP hD (by decide) rfl
    have hK9 := hK.sub (tys' := []) [] rfl
    rw [hQQ]
    exact W.vret hx hb hr (fun t ht hW => ⟨⟨(), rfl, trivial, by rw [ht]; exact hP9, va_K.moved hW.alike hK9, hD9⟩, hS.F ht⟩) hS.2.2 (zat zrX2_keep_0_ok 31 rfl)
noncomputable def zrX2_takeBack_0 : List ZR := zc 0 true (.aload_n 0) 1 (zc 1 true (.getfield 24) 3 (zc 4 true (.ifCond .le 34) 3 (zc 7 true (.aload_n 0) 1 (zc 8 true (.dup) 1 (zc 9 true (.getfield 24) 3 (zc 12 true (.iconst 1) 1 (zc 13 true (.isub) 1 (zc 14 true (.putfield 24) 3 (zc 17 true (.aload_n 1) 1 (zc 18 true (.aload_n 0) 1 (zc 19 true (.getfield 11) 3 (zc 22 true (.aload_n 0) 1 (zc 23 true (.getfield 20) 3 (zc 26 true (.aload_n 0) 1 (zc 27 true (.getfield 24) 3 (zc 30 true (.iadd) 1 (zc 31 true (.bipush 16) 2 (zc 33 true (.irem) 1 (zc 34 true (.aaload) 1 (zc 35 true (.invokevirtual 31) 3 (zc 38 true (.return_) 1 ([]))))))))))))))))))))))
theorem zrX2_takeBack_0_ok : zck 0 ((zby cX2_takeBack).drop 0) zrX2_takeBack_0 = true := by decide +kernel
def vfX2_takeBack : List Cond := List.cons (.code yX2_takeBack cX2_takeBack 2 none) (apW [.fieldLink RX2 24 "HookPier$History" "acts" "I", .fieldLink RX2 11 "HookPier$History" "kept" "[LHookPier$Now;", .fieldLink RX2 20 "HookPier$History" "oldest" "I", .methodLink RX2 31 yX4_become, .instanceMethod yX4_become, .selects RX4 yX4_become yX4_become, .initialized RX4] (apW wsX20 (vfX4_become)))
theorem ifX2_takeBack_X2 : ∀ w ∈ wsX20, w ∈ vfX2_takeBack := fun _ h => (List.mem_cons_of_mem _ (List.mem_append_right _ (List.mem_append_left _ h)))
theorem qfX2_takeBack : Good vfX2_takeBack := gd_cons (by decide +kernel) (gd_app (gd_dec (by decide +kernel) : Good [.fieldLink RX2 24 "HookPier$History" "acts" "I", .fieldLink RX2 11 "HookPier$History" "kept" "[LHookPier$Now;", .fieldLink RX2 20 "HookPier$History" "oldest" "I", .methodLink RX2 31 yX4_become, .instanceMethod yX4_become, .selects RX4 yX4_become yX4_become, .initialized RX4]) (gd_app qsX2 qfX4_become))
theorem gfX2_takeBack_0 : GoodIn vfX2_takeBack (wsV RX2 31 RX4 yX4_become vfX4_become) := goodIn_app (goodIn_r [.methodLink RX2 31 yX4_become, .instanceMethod yX4_become, .selects RX4 yX4_become yX4_become, .initialized RX4] [4, 5, 6, 7] rfl (by decide +kernel)) (goodIn_m (fun _ h => (List.mem_cons_of_mem _ (List.mem_append_right _ (List.mem_append_right _ h)))) qfX4_become)
set_option maxHeartbeats 2000000 in
set_option maxRecDepth 100000 in
theorem kfX2_takeBack (l : Launch) (dC : Nat → ClassId) (dI : Nat → Nat → Nat) (a0 : Nat) (a1 : Nat) (a2 : Nat) (a3 : Nat) (un : Nat → Nat) (kn : Nat → ClassId) (un2 : Nat → Nat) (kn2 : Nat → ClassId) (h_h : TX2_h) (g9 : Value) (n_n : TX4_n) (n2_n : TX4_n) (cB12 : ClassId) (kf13 : Nat → Option Nat) (sz : Nat) (hk : kf13 (((h_h.1 + (h_h.2.1 - (1 : Int32))) - (h_h.1 + (h_h.2.1 - (1 : Int32))) / (16 : Int32) * (16 : Int32))).toNatClampNeg = some a2) (out : (TX2_h × TX4_n)) (h : f_X2_takeBack h_h n_n n2_n = some out) : KCv l yX2_takeBack vfX2_takeBack ({ frames := 3, cells := 0, slots := 0, locals := 82 }) (dC, dI) [.ref a0, .ref a1] sz ((a0, .inr (2, [.ref a3, g9, .int h_h.1, .int h_h.2.1, .int h_h.2.2])) :: bX4 a1 un kn n_n (bX4 a2 un2 kn2 n2_n ([(a3, .inl (cB12, 16, .inr (.inr (.inr (.inr kf13)))))]))) (tX4 kn (tX4 kn2 ((cB12, .object RX4) :: []))) (fun _ => True) ((a0, .inr (2, [.ref a3, g9, .int out.1.1, .int out.1.2.1, .int out.1.2.2])) :: bX4 a1 un kn out.2 (bX4 a2 un2 kn2 n2_n ([(a3, .inl (cB12, 16, .inr (.inr (.inr (.inr kf13)))))]))) 0 0 := by
  refine Met.ofW (cc := cX2_takeBack) (maxL := 2) (ret := none) (by decide) rfl ?_
  intro p e s m args below meth c s₁ B0 hml hv
  obtain ⟨rfl, hsz, hP, hK, hD0, hN⟩ := hv
  have hx := B0.exec
  have hb := B0.bytes
  have hr := B0.returns
  have hts := atoms_spec (ws := vfX2_takeBack) B0.pre
  have hown : s.vm.findClass RX2 = some m.cls := findClass_of_methodNamed B0.named
  have hlocks := B0.notSynchronized
  subst hsz
  have hD := hD0.self (sz := s.heap.size)
  generalize hAe : va_A ((a0, .inr (2, [.ref a3, g9, .int h_h.1, .int h_h.2.1, .int h_h.2.2])) :: bX4 a1 un kn n_n (bX4 a2 un2 kn2 n2_n ([(a3, .inl (cB12, 16, .inr (.inr (.inr (.inr kf13)))))]))) s.heap.size = A at hD ⊢
  have hA : ∀ q : Nat, s.heap.size ≤ q → A q := fun q h => by rw [← hAe]; exact Or.inr h
  have hS : va_S A s.heap s.heap [] := va_S.rf
  have hP : va_P (dC, dI) vwCl ((a0, .inr (2, [.ref a3, g9, .int h_h.1, .int h_h.2.1, .int h_h.2.2])) :: bX4 a1 un kn n_n (bX4 a2 un2 kn2 n2_n ([(a3, .inl (cB12, 16, .inr (.inr (.inr (.inr kf13)))))]))) s.heap := hP
  have hl := lv_entry ([.ref a0, .ref a1]) (n := 2) (Nat.le_of_ble_eq_true rfl)
  rw [lg_entry_eq]
  generalize (lg_sl ([.ref a0, .ref a1]) ++ List.replicate (2 - (lg_sl ([.ref a0, .ref a1])).length) Slot.unset).toArray = ls at hl ⊢
  have hl : lv_has ls 2 [(0, .ref a0), (1, .ref a1)] := hl
  refine W_q (fun QQ hQQ => ?_)
  rw [f_X2_takeBack] at h
  refine lv_aload_n hx hb (zat zrX2_takeBack_0_ok 0 rfl) rfl (lv_at hl 0 rfl) ?_
  refine va_get (D := (dC, dI)) (ci := 2) (v := .int h_h.2.1) (C := RX2) (T := TX2) (N := 5) hx hb hts ifX2_takeBack_X2 hown hK hP 0 rfl rfl 3 (by decide) (hts (.fieldLink RX2 24 "HookPier$History" "acts" "I") (List.mem_of_getElem? (i := 1) rfl)) (fun _ h9 => h9) rfl (zat zrX2_takeBack_0_ok 1 rfl) ?_
  refine lv_if_le (tgt := 38) hx hb (zat zrX2_takeBack_0_ok 2 rfl) (by decide) (fun c4 => ?_) (fun c4 => ?_)
  · have h := (if_pos c4).symm.trans h
    obtain rfl := Option.some.inj h
    obtain ⟨hP9, hD9⟩ := pd_sub ((a0, .inr (2, [.ref a3, g9, .int h_h.1, .int h_h.2.1, .int h_h.2.2])) :: bX4 a1 un kn n_n (bX4 a2 un2 kn2 n2_n ([(a3, .inl (cB12, 16, .inr (.inr (.inr (.inr kf13)))))]))) [0, 1, 2, 3, 4, 5, 6, 7, 8, 9, 10, 11] hP hD (by decide) rfl
    have hK9 := hK.sub (tys' := []) [] rfl
    rw [hQQ]
    exact W.vret hx hb hr (fun t ht hW => ⟨⟨(), rfl, trivial, by rw [ht]; exact hP9, va_K.moved hW.alike hK9, hD9⟩, hS.F ht⟩) hS.2.2 (zat zrX2_takeBack_0_ok 21 rfl)
  · have h := (if_neg c4).symm.trans h
    refine lv_aload_n hx hb (zat zrX2_takeBack_0_ok 3 rfl) rfl (lv_at hl 0 rfl) ?_
    refine lv_dup hx hb (zat zrX2_takeBack_0_ok 4 rfl) rfl ?_
    refine va_get (D := (dC, dI)) (ci := 2) (v := .int h_h.2.1) (C := RX2) (T := TX2) (N := 5) hx hb hts ifX2_takeBack_X2 hown hK hP 0 rfl rfl 3 (by decide) (hts (.fieldLink RX2 24 "HookPier$History" "acts" "I") (List.mem_of_getElem? (i := 1) rfl)) (fun _ h9 => h9) rfl (zat zrX2_takeBack_0_ok 5 rfl) ?_
    refine lv_iconst (v := 1) hx hb (zat zrX2_takeBack_0_ok 6 rfl) (by decide) ?_
    refine lv_isub hx hb (zat zrX2_takeBack_0_ok 7 rfl) ?_
    refine va_put (D := (dC, dI)) (ci := 2) (v := .int (h_h.2.1 - (1 : Int32))) (ty := .int) (C := RX2) (T := TX2) (N := 5) hx hb hts ifX2_takeBack_X2 tyX2 tyX2_ok nmX2 hown hK hP hD hS 0 rfl rfl 3 (by decide) (hts (.fieldLink RX2 24 "HookPier$History" "acts" "I") (List.mem_of_getElem? (i := 1) rfl)) (fun _ h9 => h9) rfl (by decide +kernel) rfl rfl (Nat.le_of_ble_eq_true rfl) (zat zrX2_takeBack_0_ok 8 rfl) (fun H locs hP hD hS => ?_)
    obtain ⟨hP, hD⟩ := pd_mk ((a0, .inr (2, [.ref a3, g9, .int h_h.1, .int (h_h.2.1 - (1 : Int32)), .int h_h.2.2])) :: bX4 a1 un kn n_n (bX4 a2 un2 kn2 n2_n ([(a3, .inl (cB12, 16, .inr (.inr (.inr (.inr kf13)))))]))) hP hD
    refine lv_aload_n hx hb (zat zrX2_takeBack_0_ok 9 rfl) rfl (lv_at hl 1 rfl) ?_
    refine lv_aload_n hx hb (zat zrX2_takeBack_0_ok 10 rfl) rfl (lv_at hl 0 rfl) ?_
    refine va_get (D := (dC, dI)) (ci := 2) (v := .ref a3) (C := RX2) (T := TX2) (N := 5) hx hb hts ifX2_takeBack_X2 hown hK hP 0 rfl rfl 0 (by decide) (hts (.fieldLink RX2 11 "HookPier$History" "kept" "[LHookPier$Now;") (List.mem_of_getElem? (i := 2) rfl)) (fun _ h9 => h9) rfl (zat zrX2_takeBack_0_ok 11 rfl) ?_
    refine lv_aload_n hx hb (zat zrX2_takeBack_0_ok 12 rfl) rfl (lv_at hl 0 rfl) ?_
    refine va_get (D := (dC, dI)) (ci := 2) (v := .int h_h.1) (C := RX2) (T := TX2) (N := 5) hx hb hts ifX2_takeBack_X2 hown hK hP 0 rfl rfl 2 (by decide) (hts (.fieldLink RX2 20 "HookPier$History" "oldest" "I") (List.mem_of_getElem? (i := 3) rfl)) (fun _ h9 => h9) rfl (zat zrX2_takeBack_0_ok 13 rfl) ?_
    refine lv_aload_n hx hb (zat zrX2_takeBack_0_ok 14 rfl) rfl (lv_at hl 0 rfl) ?_
    refine va_get (D := (dC, dI)) (ci := 2) (v := .int (h_h.2.1 - (1 : Int32))) (C := RX2) (T := TX2) (N := 5) hx hb hts ifX2_takeBack_X2 hown hK hP 0 rfl rfl 3 (by decide) (hts (.fieldLink RX2 24 "HookPier$History" "acts" "I") (List.mem_of_getElem? (i := 1) rfl)) (fun _ h9 => h9) rfl (zat zrX2_takeBack_0_ok 15 rfl) ?_
    refine lv_iadd hx hb (zat zrX2_takeBack_0_ok 16 rfl) ?_
    refine lv_bipush (v := 16) hx hb (zat zrX2_takeBack_0_ok 17 rfl) (by decide) ?_
    refine lv_irem hx hb (zat zrX2_takeBack_0_ok 18 rfl) (by decide) ?_
    obtain ⟨hg34, h⟩ := gA_of h
    refine va_aldq hx hb hK hP 11 8 rfl rfl hg34 (zat zrX2_takeBack_0_ok 19 rfl) ?_
    rw [show va_rf (kf13 (((h_h.1 + (h_h.2.1 - (1 : Int32))) - (h_h.1 + (h_h.2.1 - (1 : Int32))) / (16 : Int32) * (16 : Int32))).toNatClampNeg) = .ref a2 from by rw [hk]; rfl]
    obtain ⟨o35, eo35⟩ : ∃ o, o = f_X4_become n_n n2_n := ⟨_, rfl⟩
    have h := nm_of h o35 eo35
    refine ck_v (wc := (bX4 a1 un kn n_n (bX4 a2 un2 kn2 n2_n []))) (wr := ([(a0, .inr (2, [.ref a3, g9, .int h_h.1, .int (h_h.2.1 - (1 : Int32)), .int h_h.2.2])), (a3, .inl (cB12, 16, .inr (.inr (.inr (.inr kf13)))))])) hP hD hK hS hA [1, 2, 3, 4, 5, 6, 7, 8, 9, 10] [0, 11] rfl rfl (by decide) (by decide) (by decide) (fun hPc hDc => (va_runV (As := [.ref a2]) (rest := []) ⟨hx, hb, hml, hown, hts⟩ (kfX4_become l dC dI a1 a2 un kn un2 kn2 n_n n2_n H.size o35 eo35.symm) (cwV 1 hts gfX2_takeBack_0 rfl rfl rfl (by decide +kernel) ⟨(Nat.le_of_ble_eq_true rfl), (Nat.le_of_ble_eq_true rfl)⟩) (PV hPc (hK.sub (tys' := (tX4 kn (tX4 kn2 ([])))) [0, 1, 2, 3, 4, 5, 6, 7] rfl) hDc hN 0 rfl rfl) rfl rfl hl.1 rfl (lv_room (Nat.le_of_ble_eq_true rfl)) (zat zrX2_takeBack_0_ok 20 rfl) ⟨(Nat.le_of_ble_eq_true rfl), (Nat.le_of_ble_eq_true rfl)⟩)) (fun _ H locs hw hP hD _ hS => ?_)
    obtain ⟨hP, hD⟩ := pd_mk ((a0, .inr (2, [.ref a3, g9, .int h_h.1, .int (h_h.2.1 - (1 : Int32)), .int h_h.2.2])) :: (a3, .inl (cB12, 16, .inr (.inr (.inr (.inr kf13))))) :: bX4 a1 un kn o35 (bX4 a2 un2 kn2 n2_n [])) hP hD
    obtain rfl := Option.some.inj h
    obtain ⟨hP9, hD9⟩ := pd_sub ((a0, .inr (2, [.ref a3, g9, .int h_h.1, .int (h_h.2.1 - (1 : Int32)), .int h_h.2.2])) :: bX4 a1 un kn o35 (bX4 a2 un2 kn2 n2_n ([(a3, .inl (cB12, 16, .inr (.inr (.inr (.inr kf13)))))]))) [0, 2, 3, 4, 5, 6, 7, 8, 9, 10, 11, 1] hP hD (by decide) rfl
    have hK9 := hK.sub (tys' := []) [] rfl
    rw [hQQ]
    exact W.vret hx hb hr (fun t ht hW => ⟨⟨(), rfl, trivial, by rw [ht]; exact hP9, va_K.moved hW.alike hK9, hD9⟩, hS.F ht⟩) hS.2.2 (zat zrX2_takeBack_0_ok 21 rfl)
noncomputable def zrX2_setMark_0 : List ZR := zc 0 true (.aload_n 0) 1 (zc 1 true (.getfield 27) 3 (zc 4 true (.iconst 3) 1 (zc 5 true (.if_icmp .lt 5) 3 (zc 8 true (.iconst (-1)) 1 (zc 9 true (.ireturn) 1 (zc 10 true (.aload_n 0) 1 (zc 11 true (.getfield 17) 3 (zc 14 true (.aload_n 0) 1 (zc 15 true (.getfield 27) 3 (zc 18 true (.aaload) 1 (zc 19 true (.aload_n 1) 1 (zc 20 true (.invokevirtual 31) 3 (zc 23 true (.aload_n 0) 1 (zc 24 true (.dup) 1 (zc 25 true (.getfield 27) 3 (zc 28 true (.iconst 1) 1 (zc 29 true (.iadd) 1 (zc 30 true (.putfield 27) 3 (zc 33 true (.aload_n 0) 1 (zc 34 true (.getfield 27) 3 (zc 37 true (.iconst 1) 1 (zc 38 true (.isub) 1 (zc 39 true (.ireturn) 1 ([]))))))))))))))))))))))))
theorem zrX2_setMark_0_ok : zck 0 ((zby cX2_setMark).drop 0) zrX2_setMark_0 = true := by decide +kernel
def vfX2_setMark : List Cond := List.cons (.code yX2_setMark cX2_setMark 2 (some .int)) (apW [.fieldLink RX2 27 "HookPier$History" "marks" "I", .fieldLink RX2 17 "HookPier$History" "marked" "[LHookPier$Now;", .methodLink RX2 31 yX4_become, .instanceMethod yX4_become, .selects RX4 yX4_become yX4_become, .initialized RX4] (apW wsX20 (vfX4_become)))
theorem ifX2_setMark_X2 : ∀ w ∈ wsX20, w ∈ vfX2_setMark := fun _ h => (List.mem_cons_of_mem _ (List.mem_append_right _ (List.mem_append_left _ h)))
theorem qfX2_setMark : Good vfX2_setMark := gd_cons (by decide +kernel) (gd_app (gd_dec (by decide +kernel) : Good [.fieldLink RX2 27 "HookPier$History" "marks" "I", .fieldLink RX2 17 "HookPier$History" "marked" "[LHookPier$Now;", .methodLink RX2 31 yX4_become, .instanceMethod yX4_become, .selects RX4 yX4_become yX4_become, .initialized RX4]) (gd_app qsX2 qfX4_become))
theorem gfX2_setMark_0 : GoodIn vfX2_setMark (wsV RX2 31 RX4 yX4_become vfX4_become) := goodIn_app (goodIn_r [.methodLink RX2 31 yX4_become, .instanceMethod yX4_become, .selects RX4 yX4_become yX4_become, .initialized RX4] [3, 4, 5, 6] rfl (by decide +kernel)) (goodIn_m (fun _ h => (List.mem_cons_of_mem _ (List.mem_append_right _ (List.mem_append_right _ h)))) qfX4_become)
set_option maxHeartbeats 2000000 in
set_option maxRecDepth 100000 in
theorem kfX2_setMark (l : Launch) (dC : Nat → ClassId) (dI : Nat → Nat → Nat) (a0 : Nat) (a1 : Nat) (a2 : Nat) (a3 : Nat) (un : Nat → Nat) (kn : Nat → ClassId) (un2 : Nat → Nat) (kn2 : Nat → ClassId) (h_h : TX2_h) (g9 : Value) (n_n : TX4_n) (n2_n : TX4_n) (cB12 : ClassId) (kf13 : Nat → Option Nat) (sz : Nat) (hk : kf13 (h_h.2.2).toNatClampNeg = some a2) (out : (Int32 × TX2_h × TX4_n)) (h : f_X2_setMark h_h n_n n2_n = some out) : KCi l yX2_setMark vfX2_setMark ({ frames := 3, cells := 0, slots := 0, locals := 82 }) (dC, dI) [.ref a0, .ref a1] sz ((a0, .inr (2, [g9, .ref a3, .int h_h.1, .int h_h.2.1, .int h_h.2.2])) :: bX4 a1 un kn n_n (bX4 a2 un2 kn2 n2_n ([(a3, .inl (cB12, 3, .inr (.inr (.inr (.inr kf13)))))]))) (tX4 kn (tX4 kn2 ((cB12, .object RX4) :: []))) (fun (r : Int32) _ => r = out.1) ((a0, .inr (2, [g9, .ref a3, .int out.2.1.1, .int out.2.1.2.1, .int out.2.1.2.2])) :: bX4 a1 un kn n_n (bX4 a2 un2 kn2 out.2.2 ([(a3, .inl (cB12, 3, .inr (.inr (.inr (.inr kf13)))))]))) 0 0 := by
  refine Met.ofW (cc := cX2_setMark) (maxL := 2) (ret := (some .int)) (by decide) rfl ?_
  intro p e s m args below meth c s₁ B0 hml hv
  obtain ⟨rfl, hsz, hP, hK, hD0, hN⟩ := hv
  have hx := B0.exec
  have hb := B0.bytes
  have hr := B0.returns
  have hts := atoms_spec (ws := vfX2_setMark) B0.pre
  have hown : s.vm.findClass RX2 = some m.cls := findClass_of_methodNamed B0.named
  have hlocks := B0.notSynchronized
  subst hsz
  have hD := hD0.self (sz := s.heap.size)
  generalize hAe : va_A ((a0, .inr (2, [g9, .ref a3, .int h_h.1, .int h_h.2.1, .int h_h.2.2])) :: bX4 a1 un kn n_n (bX4 a2 un2 kn2 n2_n ([(a3, .inl (cB12, 3, .inr (.inr (.inr (.inr kf13)))))]))) s.heap.size = A at hD ⊢
  have hA : ∀ q : Nat, s.heap.size ≤ q → A q := fun q h => by rw [← hAe]; exact Or.inr h
  have hS : va_S A s.heap s.heap [] := va_S.rf
  have hP : va_P (dC, dI) vwCl ((a0, .inr (2, [g9, .ref a3, .int h_h.1, .int h_h.2.1, .int h_h.2.2])) :: bX4 a1 un kn n_n (bX4 a2 un2 kn2 n2_n ([(a3, .inl (cB12, 3, .inr (.inr (.inr (.inr kf13)))))]))) s.heap := hP
  have hl := lv_entry ([.ref a0, .ref a1]) (n := 2) (Nat.le_of_ble_eq_true rfl)
  rw [lg_entry_eq]
  generalize (lg_sl ([.ref a0, .ref a1]) ++ List.replicate (2 - (lg_sl ([.ref a0, .ref a1])).length) Slot.unset).toArray = ls at hl ⊢
  have hl : lv_has ls 2 [(0, .ref a0), (1, .ref a1)] := hl
  refine W_q (fun QQ hQQ => ?_)
  rw [f_X2_setMark] at h
  refine lv_aload_n hx hb (zat zrX2_setMark_0_ok 0 rfl) rfl (lv_at hl 0 rfl) ?_
  refine va_get (D := (dC, dI)) (ci := 2) (v := .int h_h.2.2) (C := RX2) (T := TX2) (N := 5) hx hb hts ifX2_setMark_X2 hown hK hP 0 rfl rfl 4 (by decide) (hts (.fieldLink RX2 27 "HookPier$History" "marks" "I") (List.mem_of_getElem? (i := 1) rfl)) (fun _ h9 => h9) rfl (zat zrX2_setMark_0_ok 1 rfl) ?_
  refine lv_iconst (v := 3) hx hb (zat zrX2_setMark_0_ok 2 rfl) (by decide) ?_
  refine lv_icmp_lt (tgt := 10) hx hb (zat zrX2_setMark_0_ok 3 rfl) (by decide) (fun c5 => ?_) (fun c5 => ?_)
  · have h := (if_pos c5).symm.trans h
    refine lv_aload_n hx hb (zat zrX2_setMark_0_ok 6 rfl) rfl (lv_at hl 0 rfl) ?_
    refine va_get (D := (dC, dI)) (ci := 2) (v := .ref a3) (C := RX2) (T := TX2) (N := 5) hx hb hts ifX2_setMark_X2 hown hK hP 0 rfl rfl 1 (by decide) (hts (.fieldLink RX2 17 "HookPier$History" "marked" "[LHookPier$Now;") (List.mem_of_getElem? (i := 2) rfl)) (fun _ h9 => h9) rfl (zat zrX2_setMark_0_ok 7 rfl) ?_
    refine lv_aload_n hx hb (zat zrX2_setMark_0_ok 8 rfl) rfl (lv_at hl 0 rfl) ?_
    refine va_get (D := (dC, dI)) (ci := 2) (v := .int h_h.2.2) (C := RX2) (T := TX2) (N := 5) hx hb hts ifX2_setMark_X2 hown hK hP 0 rfl rfl 4 (by decide) (hts (.fieldLink RX2 27 "HookPier$History" "marks" "I") (List.mem_of_getElem? (i := 1) rfl)) (fun _ h9 => h9) rfl (zat zrX2_setMark_0_ok 9 rfl) ?_
    obtain ⟨hg18, h⟩ := gA_of h
    refine va_aldq hx hb hK hP 11 8 rfl rfl hg18 (zat zrX2_setMark_0_ok 10 rfl) ?_
    rw [show va_rf (kf13 (h_h.2.2).toNatClampNeg) = .ref a2 from by rw [hk]; rfl]
    refine lv_aload_n hx hb (zat zrX2_setMark_0_ok 11 rfl) rfl (lv_at hl 1 rfl) ?_
    obtain ⟨o20, eo20⟩ : ∃ o, o = f_X4_become n2_n n_n := ⟨_, rfl⟩
    have h := nm_of h o20 eo20
    refine ck_v (wc := (bX4 a2 un2 kn2 n2_n (bX4 a1 un kn n_n []))) (wr := ([(a0, .inr (2, [g9, .ref a3, .int h_h.1, .int h_h.2.1, .int h_h.2.2])), (a3, .inl (cB12, 3, .inr (.inr (.inr (.inr kf13)))))])) hP hD hK hS hA [6, 7, 8, 9, 10, 1, 2, 3, 4, 5] [0, 11] rfl rfl (by decide) (by decide) (by decide) (fun hPc hDc => (va_runV (As := [.ref a1]) (rest := []) ⟨hx, hb, hml, hown, hts⟩ (kfX4_become l dC dI a2 a1 un2 kn2 un kn n2_n n_n s.heap.size o20 eo20.symm) (cwV 1 hts gfX2_setMark_0 rfl rfl rfl (by decide +kernel) ⟨(Nat.le_of_ble_eq_true rfl), (Nat.le_of_ble_eq_true rfl)⟩) (PV hPc (hK.sub (tys' := (tX4 kn2 (tX4 kn ([])))) [4, 5, 6, 7, 0, 1, 2, 3] rfl) hDc hN 0 rfl rfl) rfl rfl hl.1 rfl (lv_room (Nat.le_of_ble_eq_true rfl)) (zat zrX2_setMark_0_ok 12 rfl) ⟨(Nat.le_of_ble_eq_true rfl), (Nat.le_of_ble_eq_true rfl)⟩)) (fun _ H locs hw hP hD _ hS => ?_)
    obtain ⟨hP, hD⟩ := pd_mk ((a0, .inr (2, [g9, .ref a3, .int h_h.1, .int h_h.2.1, .int h_h.2.2])) :: (a3, .inl (cB12, 3, .inr (.inr (.inr (.inr kf13))))) :: bX4 a2 un2 kn2 o20 (bX4 a1 un kn n_n [])) hP hD
    refine lv_aload_n hx hb (zat zrX2_setMark_0_ok 13 rfl) rfl (lv_at hl 0 rfl) ?_
    refine lv_dup hx hb (zat zrX2_setMark_0_ok 14 rfl) rfl ?_
    refine va_get (D := (dC, dI)) (ci := 2) (v := .int h_h.2.2) (C := RX2) (T := TX2) (N := 5) hx hb hts ifX2_setMark_X2 hown hK hP 0 rfl rfl 4 (by decide) (hts (.fieldLink RX2 27 "HookPier$History" "marks" "I") (List.mem_of_getElem? (i := 1) rfl)) (fun _ h9 => h9) rfl (zat zrX2_setMark_0_ok 15 rfl) ?_
    refine lv_iconst (v := 1) hx hb (zat zrX2_setMark_0_ok 16 rfl) (by decide) ?_
    refine lv_iadd hx hb (zat zrX2_setMark_0_ok 17 rfl) ?_
    refine va_put (D := (dC, dI)) (ci := 2) (v := .int (h_h.2.2 + (1 : Int32))) (ty := .int) (C := RX2) (T := TX2) (N := 5) hx hb hts ifX2_setMark_X2 tyX2 tyX2_ok nmX2 hown hK hP hD hS 0 rfl rfl 4 (by decide) (hts (.fieldLink RX2 27 "HookPier$History" "marks" "I") (List.mem_of_getElem? (i := 1) rfl)) (fun _ h9 => h9) rfl (by decide +kernel) rfl rfl (Nat.le_of_ble_eq_true rfl) (zat zrX2_setMark_0_ok 18 rfl) (fun H locs hP hD hS => ?_)
    obtain ⟨hP, hD⟩ := pd_mk ((a0, .inr (2, [g9, .ref a3, .int h_h.1, .int h_h.2.1, .int (h_h.2.2 + (1 : Int32))])) :: (a3, .inl (cB12, 3, .inr (.inr (.inr (.inr kf13))))) :: bX4 a2 un2 kn2 o20 (bX4 a1 un kn n_n [])) hP hD
    refine lv_aload_n hx hb (zat zrX2_setMark_0_ok 19 rfl) rfl (lv_at hl 0 rfl) ?_
    refine va_get (D := (dC, dI)) (ci := 2) (v := .int (h_h.2.2 + (1 : Int32))) (C := RX2) (T := TX2) (N := 5) hx hb hts ifX2_setMark_X2 hown hK hP 0 rfl rfl 4 (by decide) (hts (.fieldLink RX2 27 "HookPier$History" "marks" "I") (List.mem_of_getElem? (i := 1) rfl)) (fun _ h9 => h9) rfl (zat zrX2_setMark_0_ok 20 rfl) ?_
    refine lv_iconst (v := 1) hx hb (zat zrX2_setMark_0_ok 21 rfl) (by decide) ?_
    refine lv_isub hx hb (zat zrX2_setMark_0_ok 22 rfl) ?_
    obtain rfl := Option.some.inj h
    obtain ⟨hP9, hD9⟩ := pd_sub ((a0, .inr (2, [g9, .ref a3, .int h_h.1, .int h_h.2.1, .int (h_h.2.2 + (1 : Int32))])) :: bX4 a1 un kn n_n (bX4 a2 un2 kn2 o20 ([(a3, .inl (cB12, 3, .inr (.inr (.inr (.inr kf13)))))]))) [0, 7, 8, 9, 10, 11, 2, 3, 4, 5, 6, 1] hP hD (by decide) rfl
    have hK9 := hK.sub (tys' := []) [] rfl
    rw [hQQ]
    exact W.iret (v := ((h_h.2.2 + (1 : Int32)) - (1 : Int32))) hx hb hr (fun t ht hW => ⟨⟨((h_h.2.2 + (1 : Int32)) - (1 : Int32)), (), rfl, rfl, by rw [ht]; exact hP9, va_K.moved hW.alike hK9, hD9⟩, hS.F ht⟩) hS.2.2 (zat zrX2_setMark_0_ok 23 rfl)
  · have h := (if_neg c5).symm.trans h
    refine lv_iconst (v := (-1)) hx hb (zat zrX2_setMark_0_ok 4 rfl) (by decide) ?_
    obtain rfl := Option.some.inj h
    obtain ⟨hP9, hD9⟩ := pd_sub ((a0, .inr (2, [g9, .ref a3, .int h_h.1, .int h_h.2.1, .int h_h.2.2])) :: bX4 a1 un kn n_n (bX4 a2 un2 kn2 n2_n ([(a3, .inl (cB12, 3, .inr (.inr (.inr (.inr kf13)))))]))) [0, 1, 2, 3, 4, 5, 6, 7, 8, 9, 10, 11] hP hD (by decide) rfl
    have hK9 := hK.sub (tys' := []) [] rfl
    rw [hQQ]
    exact W.iret (v := (-1 : Int32)) hx hb hr (fun t ht hW => ⟨⟨(-1 : Int32), (), rfl, rfl, by rw [ht]; exact hP9, va_K.moved hW.alike hK9, hD9⟩, hS.F ht⟩) hS.2.2 (zat zrX2_setMark_0_ok 5 rfl)
noncomputable def zrX2_goBack_0 : List ZR := zc 0 true (.iload_n 1) 1 (zc 1 true (.iconst 0) 1 (zc 2 true (.aload_n 0) 1 (zc 3 true (.getfield 27) 3 (zc 6 true (.iconst 1) 1 (zc 7 true (.isub) 1 (zc 8 true (.invokestatic 35) 3 (zc 11 true (.ifCond .eq 18) 3 (zc 14 true (.aload_n 2) 1 (zc 15 true (.aload_n 0) 1 (zc 16 true (.getfield 17) 3 (zc 19 true (.iload_n 1) 1 (zc 20 true (.aaload) 1 (zc 21 true (.invokevirtual 31) 3 (zc 24 true (.aload_n 0) 1 (zc 25 true (.iconst 0) 1 (zc 26 true (.putfield 24) 3 (zc 29 true (.return_) 1 ([]))))))))))))))))))
theorem zrX2_goBack_0_ok : zck 0 ((zby cX2_goBack).drop 0) zrX2_goBack_0 = true := by decide +kernel
def vfX2_goBack : List Cond := List.cons (.code yX2_goBack cX2_goBack 3 none) (apW [.fieldLink RX2 27 "HookPier$History" "marks" "I", .initialized RX10, .static yX10_within, .fieldLink RX2 17 "HookPier$History" "marked" "[LHookPier$Now;", .methodLink RX2 31 yX4_become, .instanceMethod yX4_become, .selects RX4 yX4_become yX4_become, .initialized RX4, .fieldLink RX2 24 "HookPier$History" "acts" "I"] (apW wsX20 (apW vfX10_within (vfX4_become))))
theorem ifX2_goBack_X2 : ∀ w ∈ wsX20, w ∈ vfX2_goBack := fun _ h => (List.mem_cons_of_mem _ (List.mem_append_right _ (List.mem_append_left _ h)))
theorem qfX2_goBack : Good vfX2_goBack := gd_cons (by decide +kernel) (gd_app (gd_dec (by decide +kernel) : Good [.fieldLink RX2 27 "HookPier$History" "marks" "I", .initialized RX10, .static yX10_within, .fieldLink RX2 17 "HookPier$History" "marked" "[LHookPier$Now;", .methodLink RX2 31 yX4_become, .instanceMethod yX4_become, .selects RX4 yX4_become yX4_become, .initialized RX4, .fieldLink RX2 24 "HookPier$History" "acts" "I"]) (gd_app qsX2 (gd_app qfX10_within qfX4_become)))
theorem gfX2_goBack_0 : GoodIn vfX2_goBack vfX10_within := (goodIn_m (fun _ h => (List.mem_cons_of_mem _ (List.mem_append_right _ (List.mem_append_right _ (List.mem_append_left _ h))))) qfX10_within)
theorem gfX2_goBack_1 : GoodIn vfX2_goBack (wsV RX2 31 RX4 yX4_become vfX4_become) := goodIn_app (goodIn_r [.methodLink RX2 31 yX4_become, .instanceMethod yX4_become, .selects RX4 yX4_become yX4_become, .initialized RX4] [5, 6, 7, 8] rfl (by decide +kernel)) (goodIn_m (fun _ h => (List.mem_cons_of_mem _ (List.mem_append_right _ (List.mem_append_right _ (List.mem_append_right _ h))))) qfX4_become)
set_option maxHeartbeats 2000000 in
set_option maxRecDepth 100000 in
theorem kfX2_goBack (l : Launch) (dC : Nat → ClassId) (dI : Nat → Nat → Nat) (a0 : Nat) (k1 : Int32) (a2 : Nat) (a3 : Nat) (a4 : Nat) (un : Nat → Nat) (kn : Nat → ClassId) (un2 : Nat → Nat) (kn2 : Nat → ClassId) (h_h : TX2_h) (g10 : Value) (n_n : TX4_n) (n2_n : TX4_n) (cB13 : ClassId) (kf14 : Nat → Option Nat) (sz : Nat) (hk : kf14 (k1).toNatClampNeg = some a3) (out : (TX2_h × TX4_n)) (h : f_X2_goBack k1 h_h n_n n2_n = some out) : KCv l yX2_goBack vfX2_goBack ({ frames := 3, cells := 0, slots := 0, locals := 82 }) (dC, dI) [.ref a0, .int k1, .ref a2] sz ((a0, .inr (2, [g10, .ref a4, .int h_h.1, .int h_h.2.1, .int h_h.2.2])) :: bX4 a2 un kn n_n (bX4 a3 un2 kn2 n2_n ([(a4, .inl (cB13, 3, .inr (.inr (.inr (.inr kf14)))))]))) (tX4 kn (tX4 kn2 ((cB13, .object RX4) :: []))) (fun _ => True) ((a0, .inr (2, [g10, .ref a4, .int out.1.1, .int out.1.2.1, .int out.1.2.2])) :: bX4 a2 un kn out.2 (bX4 a3 un2 kn2 n2_n ([(a4, .inl (cB13, 3, .inr (.inr (.inr (.inr kf14)))))]))) 0 0 := by
  refine Met.ofW (cc := cX2_goBack) (maxL := 3) (ret := none) (by decide) rfl ?_
  intro p e s m args below meth c s₁ B0 hml hv
  obtain ⟨rfl, hsz, hP, hK, hD0, hN⟩ := hv
  have hx := B0.exec
  have hb := B0.bytes
  have hr := B0.returns
  have hts := atoms_spec (ws := vfX2_goBack) B0.pre
  have hown : s.vm.findClass RX2 = some m.cls := findClass_of_methodNamed B0.named
  have hlocks := B0.notSynchronized
  subst hsz
  have hD := hD0.self (sz := s.heap.size)
  generalize hAe : va_A ((a0, .inr (2, [g10, .ref a4, .int h_h.1, .int h_h.2.1, .int h_h.2.2])) :: bX4 a2 un kn n_n (bX4 a3 un2 kn2 n2_n ([(a4, .inl (cB13, 3, .inr (.inr (.inr (.inr kf14)))))]))) s.heap.size = A at hD ⊢
  have hA : ∀ q : Nat, s.heap.size ≤ q → A q := fun q h => by rw [← hAe]; exact Or.inr h
  have hS : va_S A s.heap s.heap [] := va_S.rf
  have hP : va_P (dC, dI) vwCl ((a0, .inr (2, [g10, .ref a4, .int h_h.1, .int h_h.2.1, .int h_h.2.2])) :: bX4 a2 un kn n_n (bX4 a3 un2 kn2 n2_n ([(a4, .inl (cB13, 3, .inr (.inr (.inr (.inr kf14)))))]))) s.heap := hP
  have hl := lv_entry ([.ref a0, .int k1, .ref a2]) (n := 3) (Nat.le_of_ble_eq_true rfl)
  rw [lg_entry_eq]
  generalize (lg_sl ([.ref a0, .int k1, .ref a2]) ++ List.replicate (3 - (lg_sl ([.ref a0, .int k1, .ref a2])).length) Slot.unset).toArray = ls at hl ⊢
  have hl : lv_has ls 3 [(0, .ref a0), (1, .int k1), (2, .ref a2)] := hl
  refine W_q (fun QQ hQQ => ?_)
  rw [f_X2_goBack] at h
  refine lv_iload_n hx hb (zat zrX2_goBack_0_ok 0 rfl) rfl (lv_at hl 1 rfl) ?_
  refine lv_iconst (v := 0) hx hb (zat zrX2_goBack_0_ok 1 rfl) (by decide) ?_
  refine lv_aload_n hx hb (zat zrX2_goBack_0_ok 2 rfl) rfl (lv_at hl 0 rfl) ?_
  refine va_get (D := (dC, dI)) (ci := 2) (v := .int h_h.2.2) (C := RX2) (T := TX2) (N := 5) hx hb hts ifX2_goBack_X2 hown hK hP 0 rfl rfl 4 (by decide) (hts (.fieldLink RX2 27 "HookPier$History" "marks" "I") (List.mem_of_getElem? (i := 1) rfl)) (fun _ h9 => h9) rfl (zat zrX2_goBack_0_ok 3 rfl) ?_
  refine lv_iconst (v := 1) hx hb (zat zrX2_goBack_0_ok 4 rfl) (by decide) ?_
  refine lv_isub hx hb (zat zrX2_goBack_0_ok 5 rfl) ?_
  obtain ⟨o8, eo8⟩ : ∃ o, o = f_X10_within k1 (0 : Int32) (h_h.2.2 - (1 : Int32)) := ⟨_, rfl⟩
  have h := nm_of h o8 eo8
  refine ck_i (wc := []) (wr := ((a0, .inr (2, [g10, .ref a4, .int h_h.1, .int h_h.2.1, .int h_h.2.2])) :: bX4 a2 un kn n_n (bX4 a3 un2 kn2 n2_n ([(a4, .inl (cB13, 3, .inr (.inr (.inr (.inr kf14)))))])))) hP hD hK hS hA [] [0, 1, 2, 3, 4, 5, 6, 7, 8, 9, 10, 11] rfl rfl (by decide) (by decide) (by decide) (fun hPc hDc => (va_runSN (As := [.int k1, .int 0, .int (h_h.2.2 - (1 : Int32))]) (rest := []) ⟨hx, hb, hml, hown, hts⟩ (kfX10_within l dC dI k1 (0 : Int32) (h_h.2.2 - (1 : Int32)) s.heap.size o8 eo8.symm) ⟨va_cnB 3 hts gfX2_goBack_0 rfl rfl rfl (hN.1 (.methodLinkNest RX2 35 yX10_within "HookPier") (List.mem_of_getElem? (i := 19) rfl)) (hts (.initialized RX10) (List.mem_of_getElem? (i := 2) rfl)) (by decide +kernel) ⟨(Nat.le_of_ble_eq_true rfl), (Nat.le_of_ble_eq_true rfl)⟩, (hts (.static yX10_within) (List.mem_of_getElem? (i := 3) rfl)), trivial⟩ (PS hPc (hK.sub (tys' := ([])) [] rfl) hDc hN) rfl rfl hl.1 rfl (lv_room (Nat.le_of_ble_eq_true rfl)) (zat zrX2_goBack_0_ok 6 rfl) ⟨(Nat.le_of_ble_eq_true rfl), (Nat.le_of_ble_eq_true rfl)⟩)) (fun r8 _ H locs hw hP hD _ hS => ?_)
  obtain ⟨hw, br8⟩ := hw
  obtain rfl := hw.symm
  obtain ⟨hP, hD⟩ := pd_mk ((a0, .inr (2, [g10, .ref a4, .int h_h.1, .int h_h.2.1, .int h_h.2.2])) :: bX4 a2 un kn n_n (bX4 a3 un2 kn2 n2_n ([(a4, .inl (cB13, 3, .inr (.inr (.inr (.inr kf14)))))]))) hP hD
  refine lv_if_eq (tgt := 29) hx hb (zat zrX2_goBack_0_ok 7 rfl) (by decide) (fun c11 => ?_) (fun c11 => ?_)
  · have h := (if_pos c11).symm.trans h
    obtain rfl := Option.some.inj h
    obtain ⟨hP9, hD9⟩ := pd_sub ((a0, .inr (2, [g10, .ref a4, .int h_h.1, .int h_h.2.1, .int h_h.2.2])) :: bX4 a2 un kn n_n (bX4 a3 un2 kn2 n2_n ([(a4, .inl (cB13, 3, .inr (.inr (.inr (.inr kf14)))))]))) [0, 1, 2, 3, 4, 5, 6, 7, 8, 9, 10, 11] hP hD (by decide) rfl
    have hK9 := hK.sub (tys' := []) [] rfl
    rw [hQQ]
    exact W.vret hx hb hr (fun t ht hW => ⟨⟨(), rfl, trivial, by rw [ht]; exact hP9, va_K.moved hW.alike hK9, hD9⟩, hS.F ht⟩) hS.2.2 (zat zrX2_goBack_0_ok 17 rfl)
  · have h := (if_neg c11).symm.trans h
    refine lv_aload_n hx hb (zat zrX2_goBack_0_ok 8 rfl) rfl (lv_at hl 2 rfl) ?_
    refine lv_aload_n hx hb (zat zrX2_goBack_0_ok 9 rfl) rfl (lv_at hl 0 rfl) ?_
    refine va_get (D := (dC, dI)) (ci := 2) (v := .ref a4) (C := RX2) (T := TX2) (N := 5) hx hb hts ifX2_goBack_X2 hown hK hP 0 rfl rfl 1 (by decide) (hts (.fieldLink RX2 17 "HookPier$History" "marked" "[LHookPier$Now;") (List.mem_of_getElem? (i := 4) rfl)) (fun _ h9 => h9) rfl (zat zrX2_goBack_0_ok 10 rfl) ?_
    refine lv_iload_n hx hb (zat zrX2_goBack_0_ok 11 rfl) rfl (lv_at hl 1 rfl) ?_
    obtain ⟨hg20, h⟩ := gA_of h
    refine va_aldq hx hb hK hP 11 8 rfl rfl hg20 (zat zrX2_goBack_0_ok 12 rfl) ?_
    rw [show va_rf (kf14 (k1).toNatClampNeg) = .ref a3 from by rw [hk]; rfl]
    obtain ⟨o21, eo21⟩ : ∃ o, o = f_X4_become n_n n2_n := ⟨_, rfl⟩
    have h := nm_of h o21 eo21
    refine ck_v (wc := (bX4 a2 un kn n_n (bX4 a3 un2 kn2 n2_n []))) (wr := ([(a0, .inr (2, [g10, .ref a4, .int h_h.1, .int h_h.2.1, .int h_h.2.2])), (a4, .inl (cB13, 3, .inr (.inr (.inr (.inr kf14)))))])) hP hD hK hS hA [1, 2, 3, 4, 5, 6, 7, 8, 9, 10] [0, 11] rfl rfl (by decide) (by decide) (by decide) (fun hPc hDc => (va_runV (As := [.ref a3]) (rest := []) ⟨hx, hb, hml, hown, hts⟩ (kfX4_become l dC dI a2 a3 un kn un2 kn2 n_n n2_n H.size o21 eo21.symm) (cwV 1 hts gfX2_goBack_1 rfl rfl rfl (by decide +kernel) ⟨(Nat.le_of_ble_eq_true rfl), (Nat.le_of_ble_eq_true rfl)⟩) (PV hPc (hK.sub (tys' := (tX4 kn (tX4 kn2 ([])))) [0, 1, 2, 3, 4, 5, 6, 7] rfl) hDc hN 0 rfl rfl) rfl rfl hl.1 rfl (lv_room (Nat.le_of_ble_eq_true rfl)) (zat zrX2_goBack_0_ok 13 rfl) ⟨(Nat.le_of_ble_eq_true rfl), (Nat.le_of_ble_eq_true rfl)⟩)) (fun _ H locs hw hP hD _ hS => ?_)
    obtain ⟨hP, hD⟩ := pd_mk ((a0, .inr (2, [g10, .ref a4, .int h_h.1, .int h_h.2.1, .int h_h.2.2])) :: (a4, .inl (cB13, 3, .inr (.inr (.inr (.inr kf14))))) :: bX4 a2 un kn o21 (bX4 a3 un2 kn2 n2_n [])) hP hD
    refine lv_aload_n hx hb (zat zrX2_goBack_0_ok 14 rfl) rfl (lv_at hl 0 rfl) ?_
    refine lv_iconst (v := 0) hx hb (zat zrX2_goBack_0_ok 15 rfl) (by decide) ?_
    refine va_put (D := (dC, dI)) (ci := 2) (v := .int 0) (ty := .int) (C := RX2) (T := TX2) (N := 5) hx hb hts ifX2_goBack_X2 tyX2 tyX2_ok nmX2 hown hK hP hD hS 0 rfl rfl 3 (by decide) (hts (.fieldLink RX2 24 "HookPier$History" "acts" "I") (List.mem_of_getElem? (i := 9) rfl)) (fun _ h9 => h9) rfl (by decide +kernel) rfl rfl (Nat.le_of_ble_eq_true rfl) (zat zrX2_goBack_0_ok 16 rfl) (fun H locs hP hD hS => ?_)
    obtain ⟨hP, hD⟩ := pd_mk ((a0, .inr (2, [g10, .ref a4, .int h_h.1, .int 0, .int h_h.2.2])) :: (a4, .inl (cB13, 3, .inr (.inr (.inr (.inr kf14))))) :: bX4 a2 un kn o21 (bX4 a3 un2 kn2 n2_n [])) hP hD
    obtain rfl := Option.some.inj h
    obtain ⟨hP9, hD9⟩ := pd_sub ((a0, .inr (2, [g10, .ref a4, .int h_h.1, .int 0, .int h_h.2.2])) :: bX4 a2 un kn o21 (bX4 a3 un2 kn2 n2_n ([(a4, .inl (cB13, 3, .inr (.inr (.inr (.inr kf14)))))]))) [0, 2, 3, 4, 5, 6, 7, 8, 9, 10, 11, 1] hP hD (by decide) rfl
    have hK9 := hK.sub (tys' := []) [] rfl
    rw [hQQ]
    exact W.vret hx hb hr (fun t ht hW => ⟨⟨(), rfl, trivial, by rw [ht]; exact hP9, va_K.moved hW.alike hK9, hD9⟩, hS.F ht⟩) hS.2.2 (zat zrX2_goBack_0_ok 17 rfl)
noncomputable def zrX2_forgetAll_0 : List ZR := zc 0 true (.aload_n 0) 1 (zc 1 true (.iconst 0) 1 (zc 2 true (.putfield 24) 3 (zc 5 true (.aload_n 0) 1 (zc 6 true (.iconst 0) 1 (zc 7 true (.putfield 27) 3 (zc 10 true (.return_) 1 ([])))))))
theorem zrX2_forgetAll_0_ok : zck 0 ((zby cX2_forgetAll).drop 0) zrX2_forgetAll_0 = true := by decide +kernel
def vfX2_forgetAll : List Cond := List.cons (.code yX2_forgetAll cX2_forgetAll 1 none) (apW [.fieldLink RX2 24 "HookPier$History" "acts" "I", .fieldLink RX2 27 "HookPier$History" "marks" "I"] (wsX20))
theorem ifX2_forgetAll_X2 : ∀ w ∈ wsX20, w ∈ vfX2_forgetAll := fun _ h => (List.mem_cons_of_mem _ (List.mem_append_right _ h))
theorem qfX2_forgetAll : Good vfX2_forgetAll := gd_cons (by decide +kernel) (gd_app (gd_dec (by decide +kernel) : Good [.fieldLink RX2 24 "HookPier$History" "acts" "I", .fieldLink RX2 27 "HookPier$History" "marks" "I"]) qsX2)
set_option maxHeartbeats 2000000 in
set_option maxRecDepth 100000 in
theorem kfX2_forgetAll (l : Launch) (dC : Nat → ClassId) (dI : Nat → Nat → Nat) (a0 : Nat) (h_h : TX2_h) (g2 : Value) (g3 : Value) (sz : Nat) (out : TX2_h) (h : f_X2_forgetAll h_h = out) : KCv l yX2_forgetAll vfX2_forgetAll ({ frames := 0, cells := 0, slots := 0, locals := 0 }) (dC, dI) [.ref a0] sz ([(a0, .inr (2, [g2, g3, .int h_h.1, .int h_h.2.1, .int h_h.2.2]))]) ([]) (fun _ => True) ([(a0, .inr (2, [g2, g3, .int out.1, .int out.2.1, .int out.2.2]))]) 0 0 := by
  refine Met.ofW (cc := cX2_forgetAll) (maxL := 1) (ret := none) (by decide) rfl ?_
  intro p e s m args below meth c s₁ B0 hml hv
  obtain ⟨rfl, hsz, hP, hK, hD0, hN⟩ := hv
  have hx := B0.exec
  have hb := B0.bytes
  have hr := B0.returns
  have hts := atoms_spec (ws := vfX2_forgetAll) B0.pre
  have hown : s.vm.findClass RX2 = some m.cls := findClass_of_methodNamed B0.named
  have hlocks := B0.notSynchronized
  subst hsz
  have hD := hD0.self (sz := s.heap.size)
  generalize hAe : va_A ([(a0, .inr (2, [g2, g3, .int h_h.1, .int h_h.2.1, .int h_h.2.2]))]) s.heap.size = A at hD ⊢
  have hA : ∀ q : Nat, s.heap.size ≤ q → A q := fun q h => by rw [← hAe]; exact Or.inr h
  have hS : va_S A s.heap s.heap [] := va_S.rf
  have hP : va_P (dC, dI) vwCl ([(a0, .inr (2, [g2, g3, .int h_h.1, .int h_h.2.1, .int h_h.2.2]))]) s.heap := hP
  have hl := lv_entry ([.ref a0]) (n := 1) (Nat.le_of_ble_eq_true rfl)
  rw [lg_entry_eq]
  generalize (lg_sl ([.ref a0]) ++ List.replicate (1 - (lg_sl ([.ref a0])).length) Slot.unset).toArray = ls at hl ⊢
  have hl : lv_has ls 1 [(0, .ref a0)] := hl
  refine W_q (fun QQ hQQ => ?_)
  rw [f_X2_forgetAll] at h
  refine lv_aload_n hx hb (zat zrX2_forgetAll_0_ok 0 rfl) rfl (lv_at hl 0 rfl) ?_
  refine lv_iconst (v := 0) hx hb (zat zrX2_forgetAll_0_ok 1 rfl) (by decide) ?_
  refine va_put (D := (dC, dI)) (ci := 2) (v := .int 0) (ty := .int) (C := RX2) (T := TX2) (N := 5) hx hb hts ifX2_forgetAll_X2 tyX2 tyX2_ok nmX2 hown hK hP hD hS 0 rfl rfl 3 (by decide) (hts (.fieldLink RX2 24 "HookPier$History" "acts" "I") (List.mem_of_getElem? (i := 1) rfl)) (fun _ h9 => h9) rfl (by decide +kernel) rfl rfl (Nat.le_of_ble_eq_true rfl) (zat zrX2_forgetAll_0_ok 2 rfl) (fun H locs hP hD hS => ?_)
  obtain ⟨hP, hD⟩ := pd_mk ([(a0, .inr (2, [g2, g3, .int h_h.1, .int 0, .int h_h.2.2]))]) hP hD
  refine lv_aload_n hx hb (zat zrX2_forgetAll_0_ok 3 rfl) rfl (lv_at hl 0 rfl) ?_
  refine lv_iconst (v := 0) hx hb (zat zrX2_forgetAll_0_ok 4 rfl) (by decide) ?_
  refine va_put (D := (dC, dI)) (ci := 2) (v := .int 0) (ty := .int) (C := RX2) (T := TX2) (N := 5) hx hb hts ifX2_forgetAll_X2 tyX2 tyX2_ok nmX2 hown hK hP hD hS 0 rfl rfl 4 (by decide) (hts (.fieldLink RX2 27 "HookPier$History" "marks" "I") (List.mem_of_getElem? (i := 2) rfl)) (fun _ h9 => h9) rfl (by decide +kernel) rfl rfl (Nat.le_of_ble_eq_true rfl) (zat zrX2_forgetAll_0_ok 5 rfl) (fun H locs hP hD hS => ?_)
  obtain ⟨hP, hD⟩ := pd_mk ([(a0, .inr (2, [g2, g3, .int h_h.1, .int 0, .int 0]))]) hP hD
  obtain rfl := h
  obtain ⟨hP9, hD9⟩ := pd_sub ([(a0, .inr (2, [g2, g3, .int h_h.1, .int 0, .int 0]))]) [0] hP hD (by decide) rfl
  have hK9 := hK.sub (tys' := []) [] rfl
  rw [hQQ]
  exact W.vret hx hb hr (fun t ht hW => ⟨⟨(), rfl, trivial, by rw [ht]; exact hP9, va_K.moved hW.alike hK9, hD9⟩, hS.F ht⟩) hS.2.2 (zat zrX2_forgetAll_0_ok 6 rfl)
noncomputable def zrX6_hasAsker_0 : List ZR := zc 0 true (.iload_n 1) 1 (zc 1 true (.iconst 0) 1 (zc 2 true (.aload_n 0) 1 (zc 3 true (.getfield 27) 3 (zc 6 true (.iconst 1) 1 (zc 7 true (.isub) 1 (zc 8 true (.invokestatic 68) 3 (zc 11 true (.ireturn) 1 ([]))))))))
theorem zrX6_hasAsker_0_ok : zck 0 ((zby cX6_hasAsker).drop 0) zrX6_hasAsker_0 = true := by decide +kernel
def vfX6_hasAsker : List Cond := List.cons (.code yX6_hasAsker cX6_hasAsker 2 (some .boolean)) (apW [.fieldLink RX6 27 "HookPier$Plan" "askers" "I", .initialized RX10, .static yX10_within] (apW wsX60 (vfX10_within)))
theorem ifX6_hasAsker_X6 : ∀ w ∈ wsX60, w ∈ vfX6_hasAsker := fun _ h => (List.mem_cons_of_mem _ (List.mem_append_right _ (List.mem_append_left _ h)))
theorem qfX6_hasAsker : Good vfX6_hasAsker := gd_cons (by decide +kernel) (gd_app (gd_dec (by decide +kernel) : Good [.fieldLink RX6 27 "HookPier$Plan" "askers" "I", .initialized RX10, .static yX10_within]) (gd_app qsX6 qfX10_within))
theorem gfX6_hasAsker_0 : GoodIn vfX6_hasAsker vfX10_within := (goodIn_m (fun _ h => (List.mem_cons_of_mem _ (List.mem_append_right _ (List.mem_append_right _ h)))) qfX10_within)
set_option maxHeartbeats 2000000 in
set_option maxRecDepth 100000 in
theorem kfX6_hasAsker (l : Launch) (dC : Nat → ClassId) (dI : Nat → Nat → Nat) (a0 : Nat) (k1 : Int32) (up : Nat → Nat) (kp : Nat → ClassId) (p_p : TX6_p) (sz : Nat) (out : Int32) (h : f_X6_hasAsker k1 p_p = out) : KDi l yX6_hasAsker vfX6_hasAsker ({ frames := 1, cells := 0, slots := 0, locals := 22 }) (dC, dI) [.ref a0, .int k1] sz (bX6 a0 up kp p_p []) (tX6 kp ([])) (fun (r : Int32) _ => r = out ∧ (0 ≤ r.toInt ∧ r.toInt ≤ 1)) 0 0 := by
  refine Met.ofW (cc := cX6_hasAsker) (maxL := 2) (ret := (some .boolean)) (by decide) rfl ?_
  intro p e s m args below meth c s₁ B0 hml hv
  obtain ⟨rfl, hsz, hP, hK, hD0, hN⟩ := hv
  have hx := B0.exec
  have hb := B0.bytes
  have hr := B0.returns
  have hts := atoms_spec (ws := vfX6_hasAsker) B0.pre
  have hown : s.vm.findClass RX6 = some m.cls := findClass_of_methodNamed B0.named
  have hlocks := B0.notSynchronized
  subst hsz
  have hD := hD0.self (sz := s.heap.size)
  generalize hAe : va_A (bX6 a0 up kp p_p []) s.heap.size = A at hD ⊢
  have hA : ∀ q : Nat, s.heap.size ≤ q → A q := fun q h => by rw [← hAe]; exact Or.inr h
  have hS : va_S A s.heap s.heap [] := va_S.rf
  have hP : va_P (dC, dI) vwCl (bX6 a0 up kp p_p []) s.heap := hP
  have hl := lv_entry ([.ref a0, .int k1]) (n := 2) (Nat.le_of_ble_eq_true rfl)
  rw [lg_entry_eq]
  generalize (lg_sl ([.ref a0, .int k1]) ++ List.replicate (2 - (lg_sl ([.ref a0, .int k1])).length) Slot.unset).toArray = ls at hl ⊢
  have hl : lv_has ls 2 [(0, .ref a0), (1, .int k1)] := hl
  refine W_q (fun QQ hQQ => ?_)
  rw [f_X6_hasAsker] at h
  refine lv_iload_n hx hb (zat zrX6_hasAsker_0_ok 0 rfl) rfl (lv_at hl 1 rfl) ?_
  refine lv_iconst (v := 0) hx hb (zat zrX6_hasAsker_0_ok 1 rfl) (by decide) ?_
  refine lv_aload_n hx hb (zat zrX6_hasAsker_0_ok 2 rfl) rfl (lv_at hl 0 rfl) ?_
  refine va_get (D := (dC, dI)) (ci := 4) (v := .int p_p.2.2.2.2.2.1) (C := RX6) (T := TX6) (N := 18) hx hb hts ifX6_hasAsker_X6 hown hK hP 0 rfl rfl 5 (by decide) (hts (.fieldLink RX6 27 "HookPier$Plan" "askers" "I") (List.mem_of_getElem? (i := 1) rfl)) (fun _ h9 => h9) rfl (zat zrX6_hasAsker_0_ok 3 rfl) ?_
  refine lv_iconst (v := 1) hx hb (zat zrX6_hasAsker_0_ok 4 rfl) (by decide) ?_
  refine lv_isub hx hb (zat zrX6_hasAsker_0_ok 5 rfl) ?_
  obtain ⟨o8, eo8⟩ : ∃ o, o = f_X10_within k1 (0 : Int32) (p_p.2.2.2.2.2.1 - (1 : Int32)) := ⟨_, rfl⟩
  have h := nm_of h o8 eo8
  refine ck_i (wc := []) (wr := (bX6 a0 up kp p_p [])) hP hD hK hS hA [] [0, 1, 2, 3, 4, 5, 6, 7, 8, 9] rfl rfl (by decide) (by decide) (by decide) (fun hPc hDc => (va_runSN (As := [.int k1, .int 0, .int (p_p.2.2.2.2.2.1 - (1 : Int32))]) (rest := []) ⟨hx, hb, hml, hown, hts⟩ (kfX10_within l dC dI k1 (0 : Int32) (p_p.2.2.2.2.2.1 - (1 : Int32)) s.heap.size o8 eo8.symm) ⟨va_cnB 3 hts gfX6_hasAsker_0 rfl rfl rfl (hN.1 (.methodLinkNest RX6 68 yX10_within "HookPier") (List.mem_of_getElem? (i := 10) rfl)) (hts (.initialized RX10) (List.mem_of_getElem? (i := 2) rfl)) (by decide +kernel) ⟨(Nat.le_of_ble_eq_true rfl), (Nat.le_of_ble_eq_true rfl)⟩, (hts (.static yX10_within) (List.mem_of_getElem? (i := 3) rfl)), trivial⟩ (PS hPc (hK.sub (tys' := ([])) [] rfl) hDc hN) rfl rfl hl.1 rfl (lv_room (Nat.le_of_ble_eq_true rfl)) (zat zrX6_hasAsker_0_ok 6 rfl) ⟨(Nat.le_of_ble_eq_true rfl), (Nat.le_of_ble_eq_true rfl)⟩)) (fun r8 _ H locs hw hP hD _ hS => ?_)
  obtain ⟨hw, br8⟩ := hw
  obtain rfl := hw.symm
  obtain ⟨hP, hD⟩ := pd_mk (bX6 a0 up kp p_p []) hP hD
  obtain rfl := h
  obtain ⟨hP9, hD9⟩ := pd_sub (bX6 a0 up kp p_p []) [0, 1, 2, 3, 4, 5, 6, 7, 8, 9] hP hD (by decide) rfl
  have hK9 := hK.sub (tys' := []) [] rfl
  rw [hQQ]
  exact W.zret (v := o8) hx hb hr (narz br8) (fun t ht hW => ⟨⟨o8, (), rfl, ⟨rfl, br8⟩, by rw [ht]; exact hP9, va_K.moved hW.alike hK9, hD9⟩, hS.F ht⟩) hS.2.2 (zat zrX6_hasAsker_0_ok 7 rfl)
noncomputable def zrX10_askerTrouble_0 : List ZR := zc 0 true (.aload_n 0) 1 (zc 1 true (.getfield 10) 3 (zc 4 true (.iload_n 1) 1 (zc 5 true (.invokevirtual 236) 3 (zc 8 true (.ifCond .eq 7) 3 (zc 11 true (.iconst 0) 1 (zc 12 true (.goto 4) 3 (zc 15 true (.iconst 1) 1 (zc 16 true (.ireturn) 1 ([])))))))))
theorem zrX10_askerTrouble_0_ok : zck 0 ((zby cX10_askerTrouble).drop 0) zrX10_askerTrouble_0 = true := by decide +kernel
def vfX10_askerTrouble : List Cond := List.cons (.code yX10_askerTrouble cX10_askerTrouble 2 (some .int)) (apW [.fieldLink RX10 10 "HookPier" "plan" "LHookPier$Plan;", .methodLink RX10 236 yX6_hasAsker, .instanceMethod yX6_hasAsker, .selects RX6 yX6_hasAsker yX6_hasAsker, .initialized RX6] (apW wsX100 (vfX6_hasAsker)))
theorem ifX10_askerTrouble_X10 : ∀ w ∈ wsX100, w ∈ vfX10_askerTrouble := fun _ h => (List.mem_cons_of_mem _ (List.mem_append_right _ (List.mem_append_left _ h)))
theorem qfX10_askerTrouble : Good vfX10_askerTrouble := gd_cons (by decide +kernel) (gd_app (gd_dec (by decide +kernel) : Good [.fieldLink RX10 10 "HookPier" "plan" "LHookPier$Plan;", .methodLink RX10 236 yX6_hasAsker, .instanceMethod yX6_hasAsker, .selects RX6 yX6_hasAsker yX6_hasAsker, .initialized RX6]) (gd_app qsX10 qfX6_hasAsker))
theorem gfX10_askerTrouble_0 : GoodIn vfX10_askerTrouble (wsV RX10 236 RX6 yX6_hasAsker vfX6_hasAsker) := goodIn_app (goodIn_r [.methodLink RX10 236 yX6_hasAsker, .instanceMethod yX6_hasAsker, .selects RX6 yX6_hasAsker yX6_hasAsker, .initialized RX6] [2, 3, 4, 5] rfl (by decide +kernel)) (goodIn_m (fun _ h => (List.mem_cons_of_mem _ (List.mem_append_right _ (List.mem_append_right _ h)))) qfX6_hasAsker)
set_option maxHeartbeats 2000000 in
set_option maxRecDepth 100000 in
theorem kfX10_askerTrouble (l : Launch) (dC : Nat → ClassId) (dI : Nat → Nat → Nat) (a0 : Nat) (k1 : Int32) (a2 : Nat) (up : Nat → Nat) (kp : Nat → ClassId) (g5 : Value) (g6 : Value) (g7 : Value) (g8 : Value) (g9 : Value) (g10 : Value) (g11 : Value) (g12 : Value) (g13 : Value) (p_p : TX6_p) (sz : Nat) (out : Int32) (h : f_X10_askerTrouble k1 p_p = out) : KDi l yX10_askerTrouble vfX10_askerTrouble ({ frames := 2, cells := 0, slots := 0, locals := 43 }) (dC, dI) [.ref a0, .int k1] sz ((a0, .inr (7, [.ref a2, g5, g6, g7, g8, g9, g10, g11, g12, g13])) :: bX6 a2 up kp p_p []) (tX6 kp ([])) (fun (r : Int32) _ => r = out) 0 0 := by
  refine Met.ofW (cc := cX10_askerTrouble) (maxL := 2) (ret := (some .int)) (by decide) rfl ?_
  intro p e s m args below meth c s₁ B0 hml hv
  obtain ⟨rfl, hsz, hP, hK, hD0, hN⟩ := hv
  have hx := B0.exec
  have hb := B0.bytes
  have hr := B0.returns
  have hts := atoms_spec (ws := vfX10_askerTrouble) B0.pre
  have hown : s.vm.findClass RX10 = some m.cls := findClass_of_methodNamed B0.named
  have hlocks := B0.notSynchronized
  subst hsz
  have hD := hD0.self (sz := s.heap.size)
  generalize hAe : va_A ((a0, .inr (7, [.ref a2, g5, g6, g7, g8, g9, g10, g11, g12, g13])) :: bX6 a2 up kp p_p []) s.heap.size = A at hD ⊢
  have hA : ∀ q : Nat, s.heap.size ≤ q → A q := fun q h => by rw [← hAe]; exact Or.inr h
  have hS : va_S A s.heap s.heap [] := va_S.rf
  have hP : va_P (dC, dI) vwCl ((a0, .inr (7, [.ref a2, g5, g6, g7, g8, g9, g10, g11, g12, g13])) :: bX6 a2 up kp p_p []) s.heap := hP
  have hl := lv_entry ([.ref a0, .int k1]) (n := 2) (Nat.le_of_ble_eq_true rfl)
  rw [lg_entry_eq]
  generalize (lg_sl ([.ref a0, .int k1]) ++ List.replicate (2 - (lg_sl ([.ref a0, .int k1])).length) Slot.unset).toArray = ls at hl ⊢
  have hl : lv_has ls 2 [(0, .ref a0), (1, .int k1)] := hl
  refine W_q (fun QQ hQQ => ?_)
  rw [f_X10_askerTrouble] at h
  refine lv_aload_n hx hb (zat zrX10_askerTrouble_0_ok 0 rfl) rfl (lv_at hl 0 rfl) ?_
  refine va_get (D := (dC, dI)) (ci := 7) (v := .ref a2) (C := RX10) (T := TX10) (N := 10) hx hb hts ifX10_askerTrouble_X10 hown hK hP 0 rfl rfl 0 (by decide) (hts (.fieldLink RX10 10 "HookPier" "plan" "LHookPier$Plan;") (List.mem_of_getElem? (i := 1) rfl)) (fun _ h9 => h9) rfl (zat zrX10_askerTrouble_0_ok 1 rfl) ?_
  refine lv_iload_n hx hb (zat zrX10_askerTrouble_0_ok 2 rfl) rfl (lv_at hl 1 rfl) ?_
  obtain ⟨o5, eo5⟩ : ∃ o, o = f_X6_hasAsker k1 p_p := ⟨_, rfl⟩
  have h := nm_of h o5 eo5
  refine ck_i (wc := (bX6 a2 up kp p_p [])) (wr := ([(a0, .inr (7, [.ref a2, g5, g6, g7, g8, g9, g10, g11, g12, g13]))])) hP hD hK hS hA [1, 2, 3, 4, 5, 6, 7, 8, 9, 10] [0] rfl rfl (by decide) (by decide) (by decide) (fun hPc hDc => (va_runV (As := [.int k1]) (rest := []) ⟨hx, hb, hml, hown, hts⟩ (kfX6_hasAsker l dC dI a2 k1 up kp p_p s.heap.size o5 eo5.symm) (cwV 1 hts gfX10_askerTrouble_0 rfl rfl rfl (by decide +kernel) ⟨(Nat.le_of_ble_eq_true rfl), (Nat.le_of_ble_eq_true rfl)⟩) (PV hPc (hK.sub (tys' := (tX6 kp ([]))) [0, 1, 2, 3, 4, 5, 6, 7, 8] rfl) hDc hN 0 rfl rfl) rfl rfl hl.1 rfl (lv_room (Nat.le_of_ble_eq_true rfl)) (zat zrX10_askerTrouble_0_ok 3 rfl) ⟨(Nat.le_of_ble_eq_true rfl), (Nat.le_of_ble_eq_true rfl)⟩)) (fun r5 _ H locs hw hP hD _ hS => ?_)
  obtain ⟨hw, br5⟩ := hw
  obtain rfl := hw.symm
  obtain ⟨hP, hD⟩ := pd_mk ((a0, .inr (7, [.ref a2, g5, g6, g7, g8, g9, g10, g11, g12, g13])) :: bX6 a2 up kp p_p []) hP hD
  refine lv_if_eq (tgt := 15) hx hb (zat zrX10_askerTrouble_0_ok 4 rfl) (by decide) (fun c8 => ?_) (fun c8 => ?_)
  · have h := (if_pos c8).symm.trans h
    refine lv_iconst (v := 1) hx hb (zat zrX10_askerTrouble_0_ok 7 rfl) (by decide) ?_
    obtain rfl := h
    obtain ⟨hP9, hD9⟩ := pd_sub ((a0, .inr (7, [.ref a2, g5, g6, g7, g8, g9, g10, g11, g12, g13])) :: bX6 a2 up kp p_p []) [0, 1, 2, 3, 4, 5, 6, 7, 8, 9, 10] hP hD (by decide) rfl
    have hK9 := hK.sub (tys' := []) [] rfl
    rw [hQQ]
    exact W.iret (v := (1 : Int32)) hx hb hr (fun t ht hW => ⟨⟨(1 : Int32), (), rfl, rfl, by rw [ht]; exact hP9, va_K.moved hW.alike hK9, hD9⟩, hS.F ht⟩) hS.2.2 (zat zrX10_askerTrouble_0_ok 8 rfl)
  · have h := (if_neg c8).symm.trans h
    refine lv_iconst (v := 0) hx hb (zat zrX10_askerTrouble_0_ok 5 rfl) (by decide) ?_
    refine lv_goto (tgt := 16) hx hb (zat zrX10_askerTrouble_0_ok 6 rfl) (by decide) ?_
    obtain rfl := h
    obtain ⟨hP9, hD9⟩ := pd_sub ((a0, .inr (7, [.ref a2, g5, g6, g7, g8, g9, g10, g11, g12, g13])) :: bX6 a2 up kp p_p []) [0, 1, 2, 3, 4, 5, 6, 7, 8, 9, 10] hP hD (by decide) rfl
    have hK9 := hK.sub (tys' := []) [] rfl
    rw [hQQ]
    exact W.iret (v := (0 : Int32)) hx hb hr (fun t ht hW => ⟨⟨(0 : Int32), (), rfl, rfl, by rw [ht]; exact hP9, va_K.moved hW.alike hK9, hD9⟩, hS.F ht⟩) hS.2.2 (zat zrX10_askerTrouble_0_ok 8 rfl)
noncomputable def zrX6_hasSpot_0 : List ZR := zc 0 true (.iload_n 1) 1 (zc 1 true (.iconst 0) 1 (zc 2 true (.aload_n 0) 1 (zc 3 true (.getfield 9) 3 (zc 6 true (.iconst 1) 1 (zc 7 true (.isub) 1 (zc 8 true (.invokestatic 68) 3 (zc 11 true (.ireturn) 1 ([]))))))))
theorem zrX6_hasSpot_0_ok : zck 0 ((zby cX6_hasSpot).drop 0) zrX6_hasSpot_0 = true := by decide +kernel
def vfX6_hasSpot : List Cond := List.cons (.code yX6_hasSpot cX6_hasSpot 2 (some .boolean)) (apW [.fieldLink RX6 9 "HookPier$Plan" "spots" "I", .initialized RX10, .static yX10_within] (apW wsX60 (vfX10_within)))
theorem ifX6_hasSpot_X6 : ∀ w ∈ wsX60, w ∈ vfX6_hasSpot := fun _ h => (List.mem_cons_of_mem _ (List.mem_append_right _ (List.mem_append_left _ h)))
theorem qfX6_hasSpot : Good vfX6_hasSpot := gd_cons (by decide +kernel) (gd_app (gd_dec (by decide +kernel) : Good [.fieldLink RX6 9 "HookPier$Plan" "spots" "I", .initialized RX10, .static yX10_within]) (gd_app qsX6 qfX10_within))
theorem gfX6_hasSpot_0 : GoodIn vfX6_hasSpot vfX10_within := (goodIn_m (fun _ h => (List.mem_cons_of_mem _ (List.mem_append_right _ (List.mem_append_right _ h)))) qfX10_within)
set_option maxHeartbeats 2000000 in
set_option maxRecDepth 100000 in
theorem kfX6_hasSpot (l : Launch) (dC : Nat → ClassId) (dI : Nat → Nat → Nat) (a0 : Nat) (k1 : Int32) (up : Nat → Nat) (kp : Nat → ClassId) (p_p : TX6_p) (sz : Nat) (out : Int32) (h : f_X6_hasSpot k1 p_p = out) : KDi l yX6_hasSpot vfX6_hasSpot ({ frames := 1, cells := 0, slots := 0, locals := 22 }) (dC, dI) [.ref a0, .int k1] sz (bX6 a0 up kp p_p []) (tX6 kp ([])) (fun (r : Int32) _ => r = out ∧ (0 ≤ r.toInt ∧ r.toInt ≤ 1)) 0 0 := by
  refine Met.ofW (cc := cX6_hasSpot) (maxL := 2) (ret := (some .boolean)) (by decide) rfl ?_
  intro p e s m args below meth c s₁ B0 hml hv
  obtain ⟨rfl, hsz, hP, hK, hD0, hN⟩ := hv
  have hx := B0.exec
  have hb := B0.bytes
  have hr := B0.returns
  have hts := atoms_spec (ws := vfX6_hasSpot) B0.pre
  have hown : s.vm.findClass RX6 = some m.cls := findClass_of_methodNamed B0.named
  have hlocks := B0.notSynchronized
  subst hsz
  have hD := hD0.self (sz := s.heap.size)
  generalize hAe : va_A (bX6 a0 up kp p_p []) s.heap.size = A at hD ⊢
  have hA : ∀ q : Nat, s.heap.size ≤ q → A q := fun q h => by rw [← hAe]; exact Or.inr h
  have hS : va_S A s.heap s.heap [] := va_S.rf
  have hP : va_P (dC, dI) vwCl (bX6 a0 up kp p_p []) s.heap := hP
  have hl := lv_entry ([.ref a0, .int k1]) (n := 2) (Nat.le_of_ble_eq_true rfl)
  rw [lg_entry_eq]
  generalize (lg_sl ([.ref a0, .int k1]) ++ List.replicate (2 - (lg_sl ([.ref a0, .int k1])).length) Slot.unset).toArray = ls at hl ⊢
  have hl : lv_has ls 2 [(0, .ref a0), (1, .int k1)] := hl
  refine W_q (fun QQ hQQ => ?_)
  rw [f_X6_hasSpot] at h
  refine lv_iload_n hx hb (zat zrX6_hasSpot_0_ok 0 rfl) rfl (lv_at hl 1 rfl) ?_
  refine lv_iconst (v := 0) hx hb (zat zrX6_hasSpot_0_ok 1 rfl) (by decide) ?_
  refine lv_aload_n hx hb (zat zrX6_hasSpot_0_ok 2 rfl) rfl (lv_at hl 0 rfl) ?_
  refine va_get (D := (dC, dI)) (ci := 4) (v := .int p_p.1) (C := RX6) (T := TX6) (N := 18) hx hb hts ifX6_hasSpot_X6 hown hK hP 0 rfl rfl 0 (by decide) (hts (.fieldLink RX6 9 "HookPier$Plan" "spots" "I") (List.mem_of_getElem? (i := 1) rfl)) (fun _ h9 => h9) rfl (zat zrX6_hasSpot_0_ok 3 rfl) ?_
  refine lv_iconst (v := 1) hx hb (zat zrX6_hasSpot_0_ok 4 rfl) (by decide) ?_
  refine lv_isub hx hb (zat zrX6_hasSpot_0_ok 5 rfl) ?_
  obtain ⟨o8, eo8⟩ : ∃ o, o = f_X10_within k1 (0 : Int32) (p_p.1 - (1 : Int32)) := ⟨_, rfl⟩
  have h := nm_of h o8 eo8
  refine ck_i (wc := []) (wr := (bX6 a0 up kp p_p [])) hP hD hK hS hA [] [0, 1, 2, 3, 4, 5, 6, 7, 8, 9] rfl rfl (by decide) (by decide) (by decide) (fun hPc hDc => (va_runSN (As := [.int k1, .int 0, .int (p_p.1 - (1 : Int32))]) (rest := []) ⟨hx, hb, hml, hown, hts⟩ (kfX10_within l dC dI k1 (0 : Int32) (p_p.1 - (1 : Int32)) s.heap.size o8 eo8.symm) ⟨va_cnB 3 hts gfX6_hasSpot_0 rfl rfl rfl (hN.1 (.methodLinkNest RX6 68 yX10_within "HookPier") (List.mem_of_getElem? (i := 10) rfl)) (hts (.initialized RX10) (List.mem_of_getElem? (i := 2) rfl)) (by decide +kernel) ⟨(Nat.le_of_ble_eq_true rfl), (Nat.le_of_ble_eq_true rfl)⟩, (hts (.static yX10_within) (List.mem_of_getElem? (i := 3) rfl)), trivial⟩ (PS hPc (hK.sub (tys' := ([])) [] rfl) hDc hN) rfl rfl hl.1 rfl (lv_room (Nat.le_of_ble_eq_true rfl)) (zat zrX6_hasSpot_0_ok 6 rfl) ⟨(Nat.le_of_ble_eq_true rfl), (Nat.le_of_ble_eq_true rfl)⟩)) (fun r8 _ H locs hw hP hD _ hS => ?_)
  obtain ⟨hw, br8⟩ := hw
  obtain rfl := hw.symm
  obtain ⟨hP, hD⟩ := pd_mk (bX6 a0 up kp p_p []) hP hD
  obtain rfl := h
  obtain ⟨hP9, hD9⟩ := pd_sub (bX6 a0 up kp p_p []) [0, 1, 2, 3, 4, 5, 6, 7, 8, 9] hP hD (by decide) rfl
  have hK9 := hK.sub (tys' := []) [] rfl
  rw [hQQ]
  exact W.zret (v := o8) hx hb hr (narz br8) (fun t ht hW => ⟨⟨o8, (), rfl, ⟨rfl, br8⟩, by rw [ht]; exact hP9, va_K.moved hW.alike hK9, hD9⟩, hS.F ht⟩) hS.2.2 (zat zrX6_hasSpot_0_ok 7 rfl)
noncomputable def zrX6_hasBait_0 : List ZR := zc 0 true (.iload_n 1) 1 (zc 1 true (.iconst 0) 1 (zc 2 true (.aload_n 0) 1 (zc 3 true (.getfield 24) 3 (zc 6 true (.iconst 1) 1 (zc 7 true (.isub) 1 (zc 8 true (.invokestatic 68) 3 (zc 11 true (.ireturn) 1 ([]))))))))
theorem zrX6_hasBait_0_ok : zck 0 ((zby cX6_hasBait).drop 0) zrX6_hasBait_0 = true := by decide +kernel
def vfX6_hasBait : List Cond := List.cons (.code yX6_hasBait cX6_hasBait 2 (some .boolean)) (apW [.fieldLink RX6 24 "HookPier$Plan" "baits" "I", .initialized RX10, .static yX10_within] (apW wsX60 (vfX10_within)))
theorem ifX6_hasBait_X6 : ∀ w ∈ wsX60, w ∈ vfX6_hasBait := fun _ h => (List.mem_cons_of_mem _ (List.mem_append_right _ (List.mem_append_left _ h)))
theorem qfX6_hasBait : Good vfX6_hasBait := gd_cons (by decide +kernel) (gd_app (gd_dec (by decide +kernel) : Good [.fieldLink RX6 24 "HookPier$Plan" "baits" "I", .initialized RX10, .static yX10_within]) (gd_app qsX6 qfX10_within))
theorem gfX6_hasBait_0 : GoodIn vfX6_hasBait vfX10_within := (goodIn_m (fun _ h => (List.mem_cons_of_mem _ (List.mem_append_right _ (List.mem_append_right _ h)))) qfX10_within)
set_option maxHeartbeats 2000000 in
set_option maxRecDepth 100000 in
theorem kfX6_hasBait (l : Launch) (dC : Nat → ClassId) (dI : Nat → Nat → Nat) (a0 : Nat) (k1 : Int32) (up : Nat → Nat) (kp : Nat → ClassId) (p_p : TX6_p) (sz : Nat) (out : Int32) (h : f_X6_hasBait k1 p_p = out) : KDi l yX6_hasBait vfX6_hasBait ({ frames := 1, cells := 0, slots := 0, locals := 22 }) (dC, dI) [.ref a0, .int k1] sz (bX6 a0 up kp p_p []) (tX6 kp ([])) (fun (r : Int32) _ => r = out ∧ (0 ≤ r.toInt ∧ r.toInt ≤ 1)) 0 0 := by
  refine Met.ofW (cc := cX6_hasBait) (maxL := 2) (ret := (some .boolean)) (by decide) rfl ?_
  intro p e s m args below meth c s₁ B0 hml hv
  obtain ⟨rfl, hsz, hP, hK, hD0, hN⟩ := hv
  have hx := B0.exec
  have hb := B0.bytes
  have hr := B0.returns
  have hts := atoms_spec (ws := vfX6_hasBait) B0.pre
  have hown : s.vm.findClass RX6 = some m.cls := findClass_of_methodNamed B0.named
  have hlocks := B0.notSynchronized
  subst hsz
  have hD := hD0.self (sz := s.heap.size)
  generalize hAe : va_A (bX6 a0 up kp p_p []) s.heap.size = A at hD ⊢
  have hA : ∀ q : Nat, s.heap.size ≤ q → A q := fun q h => by rw [← hAe]; exact Or.inr h
  have hS : va_S A s.heap s.heap [] := va_S.rf
  have hP : va_P (dC, dI) vwCl (bX6 a0 up kp p_p []) s.heap := hP
  have hl := lv_entry ([.ref a0, .int k1]) (n := 2) (Nat.le_of_ble_eq_true rfl)
  rw [lg_entry_eq]
  generalize (lg_sl ([.ref a0, .int k1]) ++ List.replicate (2 - (lg_sl ([.ref a0, .int k1])).length) Slot.unset).toArray = ls at hl ⊢
  have hl : lv_has ls 2 [(0, .ref a0), (1, .int k1)] := hl
  refine W_q (fun QQ hQQ => ?_)
  rw [f_X6_hasBait] at h
  refine lv_iload_n hx hb (zat zrX6_hasBait_0_ok 0 rfl) rfl (lv_at hl 1 rfl) ?_
  refine lv_iconst (v := 0) hx hb (zat zrX6_hasBait_0_ok 1 rfl) (by decide) ?_
  refine lv_aload_n hx hb (zat zrX6_hasBait_0_ok 2 rfl) rfl (lv_at hl 0 rfl) ?_
  refine va_get (D := (dC, dI)) (ci := 4) (v := .int p_p.2.2.2.2.1) (C := RX6) (T := TX6) (N := 18) hx hb hts ifX6_hasBait_X6 hown hK hP 0 rfl rfl 4 (by decide) (hts (.fieldLink RX6 24 "HookPier$Plan" "baits" "I") (List.mem_of_getElem? (i := 1) rfl)) (fun _ h9 => h9) rfl (zat zrX6_hasBait_0_ok 3 rfl) ?_
  refine lv_iconst (v := 1) hx hb (zat zrX6_hasBait_0_ok 4 rfl) (by decide) ?_
  refine lv_isub hx hb (zat zrX6_hasBait_0_ok 5 rfl) ?_
  obtain ⟨o8, eo8⟩ : ∃ o, o = f_X10_within k1 (0 : Int32) (p_p.2.2.2.2.1 - (1 : Int32)) := ⟨_, rfl⟩
  have h := nm_of h o8 eo8
  refine ck_i (wc := []) (wr := (bX6 a0 up kp p_p [])) hP hD hK hS hA [] [0, 1, 2, 3, 4, 5, 6, 7, 8, 9] rfl rfl (by decide) (by decide) (by decide) (fun hPc hDc => (va_runSN (As := [.int k1, .int 0, .int (p_p.2.2.2.2.1 - (1 : Int32))]) (rest := []) ⟨hx, hb, hml, hown, hts⟩ (kfX10_within l dC dI k1 (0 : Int32) (p_p.2.2.2.2.1 - (1 : Int32)) s.heap.size o8 eo8.symm) ⟨va_cnB 3 hts gfX6_hasBait_0 rfl rfl rfl (hN.1 (.methodLinkNest RX6 68 yX10_within "HookPier") (List.mem_of_getElem? (i := 10) rfl)) (hts (.initialized RX10) (List.mem_of_getElem? (i := 2) rfl)) (by decide +kernel) ⟨(Nat.le_of_ble_eq_true rfl), (Nat.le_of_ble_eq_true rfl)⟩, (hts (.static yX10_within) (List.mem_of_getElem? (i := 3) rfl)), trivial⟩ (PS hPc (hK.sub (tys' := ([])) [] rfl) hDc hN) rfl rfl hl.1 rfl (lv_room (Nat.le_of_ble_eq_true rfl)) (zat zrX6_hasBait_0_ok 6 rfl) ⟨(Nat.le_of_ble_eq_true rfl), (Nat.le_of_ble_eq_true rfl)⟩)) (fun r8 _ H locs hw hP hD _ hS => ?_)
  obtain ⟨hw, br8⟩ := hw
  obtain rfl := hw.symm
  obtain ⟨hP, hD⟩ := pd_mk (bX6 a0 up kp p_p []) hP hD
  obtain rfl := h
  obtain ⟨hP9, hD9⟩ := pd_sub (bX6 a0 up kp p_p []) [0, 1, 2, 3, 4, 5, 6, 7, 8, 9] hP hD (by decide) rfl
  have hK9 := hK.sub (tys' := []) [] rfl
  rw [hQQ]
  exact W.zret (v := o8) hx hb hr (narz br8) (fun t ht hW => ⟨⟨o8, (), rfl, ⟨rfl, br8⟩, by rw [ht]; exact hP9, va_K.moved hW.alike hK9, hD9⟩, hS.F ht⟩) hS.2.2 (zat zrX6_hasBait_0_ok 7 rfl)
noncomputable def zrX10_questionTrouble_0 : List ZR := zc 0 true (.aload_n 0) 1 (zc 1 true (.getfield 10) 3 (zc 4 true (.iload_n 1) 1 (zc 5 true (.invokevirtual 239) 3 (zc 8 true (.ifCond .eq 14) 3 (zc 11 true (.aload_n 0) 1 (zc 12 true (.getfield 10) 3 (zc 15 true (.iload_n 3) 1 (zc 16 true (.invokevirtual 384) 3 (zc 19 true (.ifCond .ne 5) 3 (zc 22 true (.iconst 1) 1 (zc 23 true (.ireturn) 1 (zc 24 true (.iload_n 2) 1 (zc 25 true (.iconst 1) 1 (zc 26 true (.aload_n 0) 1 (zc 27 true (.getfield 10) 3 (zc 30 true (.getfield 378) 3 (zc 33 true (.invokestatic 75) 3 (zc 36 true (.ifCond .eq 7) 3 (zc 39 true (.iconst 0) 1 (zc 40 true (.goto 4) 3 (zc 43 true (.iconst 2) 1 (zc 44 true (.ireturn) 1 ([])))))))))))))))))))))))
theorem zrX10_questionTrouble_0_ok : zck 0 ((zby cX10_questionTrouble).drop 0) zrX10_questionTrouble_0 = true := by decide +kernel
def vfX10_questionTrouble : List Cond := List.cons (.code yX10_questionTrouble cX10_questionTrouble 4 (some .int)) (apW [.fieldLink RX10 10 "HookPier" "plan" "LHookPier$Plan;", .methodLink RX10 239 yX6_hasSpot, .instanceMethod yX6_hasSpot, .selects RX6 yX6_hasSpot yX6_hasSpot, .initialized RX6, .methodLink RX10 384 yX6_hasBait, .instanceMethod yX6_hasBait, .selects RX6 yX6_hasBait yX6_hasBait, .fieldLink RX10 378 "HookPier$Plan" "deep" "I", .methodLink RX10 75 yX10_within, .static yX10_within, .initialized RX10] (apW wsX100 (apW wsX60 (apW vfX6_hasSpot (apW vfX6_hasBait (vfX10_within))))))
theorem ifX10_questionTrouble_X10 : ∀ w ∈ wsX100, w ∈ vfX10_questionTrouble := fun _ h => (List.mem_cons_of_mem _ (List.mem_append_right _ (List.mem_append_left _ h)))
theorem ifX10_questionTrouble_X6 : ∀ w ∈ wsX60, w ∈ vfX10_questionTrouble := fun _ h => (List.mem_cons_of_mem _ (List.mem_append_right _ (List.mem_append_right _ (List.mem_append_left _ h))))
theorem qfX10_questionTrouble : Good vfX10_questionTrouble := gd_cons (by decide +kernel) (gd_app (gd_dec (by decide +kernel) : Good [.fieldLink RX10 10 "HookPier" "plan" "LHookPier$Plan;", .methodLink RX10 239 yX6_hasSpot, .instanceMethod yX6_hasSpot, .selects RX6 yX6_hasSpot yX6_hasSpot, .initialized RX6, .methodLink RX10 384 yX6_hasBait, .instanceMethod yX6_hasBait, .selects RX6 yX6_hasBait yX6_hasBait, .fieldLink RX10 378 "HookPier$Plan" "deep" "I", .methodLink RX10 75 yX10_within, .static yX10_within, .initialized RX10]) (gd_app qsX10 (gd_app qsX6 (gd_app qfX6_hasSpot (gd_app qfX6_hasBait qfX10_within)))))
theorem gfX10_questionTrouble_0 : GoodIn vfX10_questionTrouble (wsV RX10 239 RX6 yX6_hasSpot vfX6_hasSpot) := goodIn_app (goodIn_r [.methodLink RX10 239 yX6_hasSpot, .instanceMethod yX6_hasSpot, .selects RX6 yX6_hasSpot yX6_hasSpot, .initialized RX6] [2, 3, 4, 5] rfl (by decide +kernel)) (goodIn_m (fun _ h => (List.mem_cons_of_mem _ (List.mem_append_right _ (List.mem_append_right _ (List.mem_append_right _ (List.mem_append_left _ h)))))) qfX6_hasSpot)
theorem gfX10_questionTrouble_1 : GoodIn vfX10_questionTrouble (wsV RX10 384 RX6 yX6_hasBait vfX6_hasBait) := goodIn_app (goodIn_r [.methodLink RX10 384 yX6_hasBait, .instanceMethod yX6_hasBait, .selects RX6 yX6_hasBait yX6_hasBait, .initialized RX6] [6, 7, 8, 5] rfl (by decide +kernel)) (goodIn_m (fun _ h => (List.mem_cons_of_mem _ (List.mem_append_right _ (List.mem_append_right _ (List.mem_append_right _ (List.mem_append_right _ (List.mem_append_left _ h))))))) qfX6_hasBait)
theorem gfX10_questionTrouble_2 : GoodIn vfX10_questionTrouble (va_wsS RX10 75 yX10_within vfX10_within) := goodIn_app (goodIn_r [.methodLink RX10 75 yX10_within, .static yX10_within, .initialized RX10] [10, 11, 12] rfl (by decide +kernel)) (goodIn_m (fun _ h => (List.mem_cons_of_mem _ (List.mem_append_right _ (List.mem_append_right _ (List.mem_append_right _ (List.mem_append_right _ (List.mem_append_right _ h))))))) qfX10_within)
set_option maxHeartbeats 2000000 in
set_option maxRecDepth 100000 in
theorem kfX10_questionTrouble (l : Launch) (dC : Nat → ClassId) (dI : Nat → Nat → Nat) (a0 : Nat) (k1 : Int32) (k2 : Int32) (k3 : Int32) (a4 : Nat) (up : Nat → Nat) (kp : Nat → ClassId) (g7 : Value) (g8 : Value) (g9 : Value) (g10 : Value) (g11 : Value) (g12 : Value) (g13 : Value) (g14 : Value) (g15 : Value) (p_p : TX6_p) (sz : Nat) (out : Int32) (h : f_X10_questionTrouble k1 k2 k3 p_p = out) : KDi l yX10_questionTrouble vfX10_questionTrouble ({ frames := 2, cells := 0, slots := 0, locals := 43 }) (dC, dI) [.ref a0, .int k1, .int k2, .int k3] sz ((a0, .inr (7, [.ref a4, g7, g8, g9, g10, g11, g12, g13, g14, g15])) :: bX6 a4 up kp p_p []) (tX6 kp ([])) (fun (r : Int32) _ => r = out) 0 0 := by
  refine Met.ofW (cc := cX10_questionTrouble) (maxL := 4) (ret := (some .int)) (by decide) rfl ?_
  intro p e s m args below meth c s₁ B0 hml hv
  obtain ⟨rfl, hsz, hP, hK, hD0, hN⟩ := hv
  have hx := B0.exec
  have hb := B0.bytes
  have hr := B0.returns
  have hts := atoms_spec (ws := vfX10_questionTrouble) B0.pre
  have hown : s.vm.findClass RX10 = some m.cls := findClass_of_methodNamed B0.named
  have hlocks := B0.notSynchronized
  subst hsz
  have hD := hD0.self (sz := s.heap.size)
  generalize hAe : va_A ((a0, .inr (7, [.ref a4, g7, g8, g9, g10, g11, g12, g13, g14, g15])) :: bX6 a4 up kp p_p []) s.heap.size = A at hD ⊢
  have hA : ∀ q : Nat, s.heap.size ≤ q → A q := fun q h => by rw [← hAe]; exact Or.inr h
  have hS : va_S A s.heap s.heap [] := va_S.rf
  have hP : va_P (dC, dI) vwCl ((a0, .inr (7, [.ref a4, g7, g8, g9, g10, g11, g12, g13, g14, g15])) :: bX6 a4 up kp p_p []) s.heap := hP
  have hl := lv_entry ([.ref a0, .int k1, .int k2, .int k3]) (n := 4) (Nat.le_of_ble_eq_true rfl)
  rw [lg_entry_eq]
  generalize (lg_sl ([.ref a0, .int k1, .int k2, .int k3]) ++ List.replicate (4 - (lg_sl ([.ref a0, .int k1, .int k2, .int k3])).length) Slot.unset).toArray = ls at hl ⊢
  have hl : lv_has ls 4 [(0, .ref a0), (1, .int k1), (2, .int k2), (3, .int k3)] := hl
  refine W_q (fun QQ hQQ => ?_)
  rw [f_X10_questionTrouble] at h
  refine lv_aload_n hx hb (zat zrX10_questionTrouble_0_ok 0 rfl) rfl (lv_at hl 0 rfl) ?_
  refine va_get (D := (dC, dI)) (ci := 7) (v := .ref a4) (C := RX10) (T := TX10) (N := 10) hx hb hts ifX10_questionTrouble_X10 hown hK hP 0 rfl rfl 0 (by decide) (hts (.fieldLink RX10 10 "HookPier" "plan" "LHookPier$Plan;") (List.mem_of_getElem? (i := 1) rfl)) (fun _ h9 => h9) rfl (zat zrX10_questionTrouble_0_ok 1 rfl) ?_
  refine lv_iload_n hx hb (zat zrX10_questionTrouble_0_ok 2 rfl) rfl (lv_at hl 1 rfl) ?_
  obtain ⟨o5, eo5⟩ : ∃ o, o = f_X6_hasSpot k1 p_p := ⟨_, rfl⟩
  have h := nm_of h o5 eo5
  refine ck_i (wc := (bX6 a4 up kp p_p [])) (wr := ([(a0, .inr (7, [.ref a4, g7, g8, g9, g10, g11, g12, g13, g14, g15]))])) hP hD hK hS hA [1, 2, 3, 4, 5, 6, 7, 8, 9, 10] [0] rfl rfl (by decide) (by decide) (by decide) (fun hPc hDc => (va_runV (As := [.int k1]) (rest := []) ⟨hx, hb, hml, hown, hts⟩ (kfX6_hasSpot l dC dI a4 k1 up kp p_p s.heap.size o5 eo5.symm) (cwV 1 hts gfX10_questionTrouble_0 rfl rfl rfl (by decide +kernel) ⟨(Nat.le_of_ble_eq_true rfl), (Nat.le_of_ble_eq_true rfl)⟩) (PV hPc (hK.sub (tys' := (tX6 kp ([]))) [0, 1, 2, 3, 4, 5, 6, 7, 8] rfl) hDc hN 0 rfl rfl) rfl rfl hl.1 rfl (lv_room (Nat.le_of_ble_eq_true rfl)) (zat zrX10_questionTrouble_0_ok 3 rfl) ⟨(Nat.le_of_ble_eq_true rfl), (Nat.le_of_ble_eq_true rfl)⟩)) (fun r5 _ H locs hw hP hD _ hS => ?_)
  obtain ⟨hw, br5⟩ := hw
  obtain rfl := hw.symm
  obtain ⟨hP, hD⟩ := pd_mk ((a0, .inr (7, [.ref a4, g7, g8, g9, g10, g11, g12, g13, g14, g15])) :: bX6 a4 up kp p_p []) hP hD
  refine lv_if_eq (tgt := 22) hx hb (zat zrX10_questionTrouble_0_ok 4 rfl) (by decide) (fun c8 => ?_) (fun c8 => ?_)
  · have h := (if_pos c8).symm.trans h
    refine lv_iconst (v := 1) hx hb (zat zrX10_questionTrouble_0_ok 10 rfl) (by decide) ?_
    obtain rfl := h
    obtain ⟨hP9, hD9⟩ := pd_sub ((a0, .inr (7, [.ref a4, g7, g8, g9, g10, g11, g12, g13, g14, g15])) :: bX6 a4 up kp p_p []) [0, 1, 2, 3, 4, 5, 6, 7, 8, 9, 10] hP hD (by decide) rfl
    have hK9 := hK.sub (tys' := []) [] rfl
    rw [hQQ]
    exact W.iret (v := (1 : Int32)) hx hb hr (fun t ht hW => ⟨⟨(1 : Int32), (), rfl, rfl, by rw [ht]; exact hP9, va_K.moved hW.alike hK9, hD9⟩, hS.F ht⟩) hS.2.2 (zat zrX10_questionTrouble_0_ok 11 rfl)
  · have h := (if_neg c8).symm.trans h
    refine lv_aload_n hx hb (zat zrX10_questionTrouble_0_ok 5 rfl) rfl (lv_at hl 0 rfl) ?_
    refine va_get (D := (dC, dI)) (ci := 7) (v := .ref a4) (C := RX10) (T := TX10) (N := 10) hx hb hts ifX10_questionTrouble_X10 hown hK hP 0 rfl rfl 0 (by decide) (hts (.fieldLink RX10 10 "HookPier" "plan" "LHookPier$Plan;") (List.mem_of_getElem? (i := 1) rfl)) (fun _ h9 => h9) rfl (zat zrX10_questionTrouble_0_ok 6 rfl) ?_
    refine lv_iload_n hx hb (zat zrX10_questionTrouble_0_ok 7 rfl) rfl (lv_at hl 3 rfl) ?_
    obtain ⟨o16, eo16⟩ : ∃ o, o = f_X6_hasBait k3 p_p := ⟨_, rfl⟩
    have h := nm_of h o16 eo16
    refine ck_i (wc := (bX6 a4 up kp p_p [])) (wr := ([(a0, .inr (7, [.ref a4, g7, g8, g9, g10, g11, g12, g13, g14, g15]))])) hP hD hK hS hA [1, 2, 3, 4, 5, 6, 7, 8, 9, 10] [0] rfl rfl (by decide) (by decide) (by decide) (fun hPc hDc => (va_runV (As := [.int k3]) (rest := []) ⟨hx, hb, hml, hown, hts⟩ (kfX6_hasBait l dC dI a4 k3 up kp p_p H.size o16 eo16.symm) (cwV 1 hts gfX10_questionTrouble_1 rfl rfl rfl (by decide +kernel) ⟨(Nat.le_of_ble_eq_true rfl), (Nat.le_of_ble_eq_true rfl)⟩) (PV hPc (hK.sub (tys' := (tX6 kp ([]))) [0, 1, 2, 3, 4, 5, 6, 7, 8] rfl) hDc hN 0 rfl rfl) rfl rfl hl.1 rfl (lv_room (Nat.le_of_ble_eq_true rfl)) (zat zrX10_questionTrouble_0_ok 8 rfl) ⟨(Nat.le_of_ble_eq_true rfl), (Nat.le_of_ble_eq_true rfl)⟩)) (fun r16 _ H locs hw hP hD _ hS => ?_)
    obtain ⟨hw, br16⟩ := hw
    obtain rfl := hw.symm
    obtain ⟨hP, hD⟩ := pd_mk ((a0, .inr (7, [.ref a4, g7, g8, g9, g10, g11, g12, g13, g14, g15])) :: bX6 a4 up kp p_p []) hP hD
    refine lv_if_ne (tgt := 24) hx hb (zat zrX10_questionTrouble_0_ok 9 rfl) (by decide) (fun c19 => ?_) (fun c19 => ?_)
    · have h := (if_neg c19).symm.trans h
      refine lv_iload_n hx hb (zat zrX10_questionTrouble_0_ok 12 rfl) rfl (lv_at hl 2 rfl) ?_
      refine lv_iconst (v := 1) hx hb (zat zrX10_questionTrouble_0_ok 13 rfl) (by decide) ?_
      refine lv_aload_n hx hb (zat zrX10_questionTrouble_0_ok 14 rfl) rfl (lv_at hl 0 rfl) ?_
      refine va_get (D := (dC, dI)) (ci := 7) (v := .ref a4) (C := RX10) (T := TX10) (N := 10) hx hb hts ifX10_questionTrouble_X10 hown hK hP 0 rfl rfl 0 (by decide) (hts (.fieldLink RX10 10 "HookPier" "plan" "LHookPier$Plan;") (List.mem_of_getElem? (i := 1) rfl)) (fun _ h9 => h9) rfl (zat zrX10_questionTrouble_0_ok 15 rfl) ?_
      refine va_get (D := (dC, dI)) (ci := 4) (v := .int p_p.2.1) (C := RX6) (T := TX6) (N := 18) hx hb hts ifX10_questionTrouble_X6 hown hK hP 1 rfl rfl 1 (by decide) (hts (.fieldLink RX10 378 "HookPier$Plan" "deep" "I") (List.mem_of_getElem? (i := 9) rfl)) (fun _ h9 => h9) rfl (zat zrX10_questionTrouble_0_ok 16 rfl) ?_
      obtain ⟨o33, eo33⟩ : ∃ o, o = f_X10_within k2 (1 : Int32) p_p.2.1 := ⟨_, rfl⟩
      have h := nm_of h o33 eo33
      refine ck_i (wc := []) (wr := ((a0, .inr (7, [.ref a4, g7, g8, g9, g10, g11, g12, g13, g14, g15])) :: bX6 a4 up kp p_p [])) hP hD hK hS hA [] [0, 1, 2, 3, 4, 5, 6, 7, 8, 9, 10] rfl rfl (by decide) (by decide) (by decide) (fun hPc hDc => (va_runS (As := [.int k2, .int 1, .int p_p.2.1]) (rest := []) ⟨hx, hb, hml, hown, hts⟩ (kfX10_within l dC dI k2 (1 : Int32) p_p.2.1 H.size o33 eo33.symm) (va_cwS 3 hts gfX10_questionTrouble_2 rfl rfl rfl (by decide +kernel) ⟨(Nat.le_of_ble_eq_true rfl), (Nat.le_of_ble_eq_true rfl)⟩) (PS hPc (hK.sub (tys' := ([])) [] rfl) hDc hN) rfl rfl hl.1 rfl (lv_room (Nat.le_of_ble_eq_true rfl)) (zat zrX10_questionTrouble_0_ok 17 rfl) ⟨(Nat.le_of_ble_eq_true rfl), (Nat.le_of_ble_eq_true rfl)⟩)) (fun r33 _ H locs hw hP hD _ hS => ?_)
      obtain ⟨hw, br33⟩ := hw
      obtain rfl := hw.symm
      obtain ⟨hP, hD⟩ := pd_mk ((a0, .inr (7, [.ref a4, g7, g8, g9, g10, g11, g12, g13, g14, g15])) :: bX6 a4 up kp p_p []) hP hD
      refine lv_if_eq (tgt := 43) hx hb (zat zrX10_questionTrouble_0_ok 18 rfl) (by decide) (fun c36 => ?_) (fun c36 => ?_)
      · have h := (if_pos c36).symm.trans h
        refine lv_iconst (v := 2) hx hb (zat zrX10_questionTrouble_0_ok 21 rfl) (by decide) ?_
        obtain rfl := h
        obtain ⟨hP9, hD9⟩ := pd_sub ((a0, .inr (7, [.ref a4, g7, g8, g9, g10, g11, g12, g13, g14, g15])) :: bX6 a4 up kp p_p []) [0, 1, 2, 3, 4, 5, 6, 7, 8, 9, 10] hP hD (by decide) rfl
        have hK9 := hK.sub (tys' := []) [] rfl
        rw [hQQ]
        exact W.iret (v := (2 : Int32)) hx hb hr (fun t ht hW => ⟨⟨(2 : Int32), (), rfl, rfl, by rw [ht]; exact hP9, va_K.moved hW.alike hK9, hD9⟩, hS.F ht⟩) hS.2.2 (zat zrX10_questionTrouble_0_ok 22 rfl)
      · have h := (if_neg c36).symm.trans h
        refine lv_iconst (v := 0) hx hb (zat zrX10_questionTrouble_0_ok 19 rfl) (by decide) ?_
        refine lv_goto (tgt := 44) hx hb (zat zrX10_questionTrouble_0_ok 20 rfl) (by decide) ?_
        obtain rfl := h
        obtain ⟨hP9, hD9⟩ := pd_sub ((a0, .inr (7, [.ref a4, g7, g8, g9, g10, g11, g12, g13, g14, g15])) :: bX6 a4 up kp p_p []) [0, 1, 2, 3, 4, 5, 6, 7, 8, 9, 10] hP hD (by decide) rfl
        have hK9 := hK.sub (tys' := []) [] rfl
        rw [hQQ]
        exact W.iret (v := (0 : Int32)) hx hb hr (fun t ht hW => ⟨⟨(0 : Int32), (), rfl, rfl, by rw [ht]; exact hP9, va_K.moved hW.alike hK9, hD9⟩, hS.F ht⟩) hS.2.2 (zat zrX10_questionTrouble_0_ok 22 rfl)
    · have h := (if_pos c19).symm.trans h
      refine lv_iconst (v := 1) hx hb (zat zrX10_questionTrouble_0_ok 10 rfl) (by decide) ?_
      obtain rfl := h
      obtain ⟨hP9, hD9⟩ := pd_sub ((a0, .inr (7, [.ref a4, g7, g8, g9, g10, g11, g12, g13, g14, g15])) :: bX6 a4 up kp p_p []) [0, 1, 2, 3, 4, 5, 6, 7, 8, 9, 10] hP hD (by decide) rfl
      have hK9 := hK.sub (tys' := []) [] rfl
      rw [hQQ]
      exact W.iret (v := (1 : Int32)) hx hb hr (fun t ht hW => ⟨⟨(1 : Int32), (), rfl, rfl, by rw [ht]; exact hP9, va_K.moved hW.alike hK9, hD9⟩, hS.F ht⟩) hS.2.2 (zat zrX10_questionTrouble_0_ok 11 rfl)
noncomputable def zrX6_isClose_0 : List ZR := zc 0 true (.iload_n 1) 1 (zc 1 true (.aload_n 0) 1 (zc 2 true (.getfield 18) 3 (zc 5 true (.aload_n 0) 1 (zc 6 true (.getfield 21) 3 (zc 9 true (.invokestatic 68) 3 (zc 12 true (.ireturn) 1 ([])))))))
theorem zrX6_isClose_0_ok : zck 0 ((zby cX6_isClose).drop 0) zrX6_isClose_0 = true := by decide +kernel
def vfX6_isClose : List Cond := List.cons (.code yX6_isClose cX6_isClose 2 (some .boolean)) (apW [.fieldLink RX6 18 "HookPier$Plan" "closeFrom" "I", .fieldLink RX6 21 "HookPier$Plan" "closeTo" "I", .initialized RX10, .static yX10_within] (apW wsX60 (vfX10_within)))
theorem ifX6_isClose_X6 : ∀ w ∈ wsX60, w ∈ vfX6_isClose := fun _ h => (List.mem_cons_of_mem _ (List.mem_append_right _ (List.mem_append_left _ h)))
theorem qfX6_isClose : Good vfX6_isClose := gd_cons (by decide +kernel) (gd_app (gd_dec (by decide +kernel) : Good [.fieldLink RX6 18 "HookPier$Plan" "closeFrom" "I", .fieldLink RX6 21 "HookPier$Plan" "closeTo" "I", .initialized RX10, .static yX10_within]) (gd_app qsX6 qfX10_within))
theorem gfX6_isClose_0 : GoodIn vfX6_isClose vfX10_within := (goodIn_m (fun _ h => (List.mem_cons_of_mem _ (List.mem_append_right _ (List.mem_append_right _ h)))) qfX10_within)
set_option maxHeartbeats 2000000 in
set_option maxRecDepth 100000 in
theorem kfX6_isClose (l : Launch) (dC : Nat → ClassId) (dI : Nat → Nat → Nat) (a0 : Nat) (k1 : Int32) (up : Nat → Nat) (kp : Nat → ClassId) (p_p : TX6_p) (sz : Nat) (out : Int32) (h : f_X6_isClose k1 p_p = out) : KDi l yX6_isClose vfX6_isClose ({ frames := 1, cells := 0, slots := 0, locals := 22 }) (dC, dI) [.ref a0, .int k1] sz (bX6 a0 up kp p_p []) (tX6 kp ([])) (fun (r : Int32) _ => r = out ∧ (0 ≤ r.toInt ∧ r.toInt ≤ 1)) 0 0 := by
  refine Met.ofW (cc := cX6_isClose) (maxL := 2) (ret := (some .boolean)) (by decide) rfl ?_
  intro p e s m args below meth c s₁ B0 hml hv
  obtain ⟨rfl, hsz, hP, hK, hD0, hN⟩ := hv
  have hx := B0.exec
  have hb := B0.bytes
  have hr := B0.returns
  have hts := atoms_spec (ws := vfX6_isClose) B0.pre
  have hown : s.vm.findClass RX6 = some m.cls := findClass_of_methodNamed B0.named
  have hlocks := B0.notSynchronized
  subst hsz
  have hD := hD0.self (sz := s.heap.size)
  generalize hAe : va_A (bX6 a0 up kp p_p []) s.heap.size = A at hD ⊢
  have hA : ∀ q : Nat, s.heap.size ≤ q → A q := fun q h => by rw [← hAe]; exact Or.inr h
  have hS : va_S A s.heap s.heap [] := va_S.rf
  have hP : va_P (dC, dI) vwCl (bX6 a0 up kp p_p []) s.heap := hP
  have hl := lv_entry ([.ref a0, .int k1]) (n := 2) (Nat.le_of_ble_eq_true rfl)
  rw [lg_entry_eq]
  generalize (lg_sl ([.ref a0, .int k1]) ++ List.replicate (2 - (lg_sl ([.ref a0, .int k1])).length) Slot.unset).toArray = ls at hl ⊢
  have hl : lv_has ls 2 [(0, .ref a0), (1, .int k1)] := hl
  refine W_q (fun QQ hQQ => ?_)
  rw [f_X6_isClose] at h
  refine lv_iload_n hx hb (zat zrX6_isClose_0_ok 0 rfl) rfl (lv_at hl 1 rfl) ?_
  refine lv_aload_n hx hb (zat zrX6_isClose_0_ok 1 rfl) rfl (lv_at hl 0 rfl) ?_
  refine va_get (D := (dC, dI)) (ci := 4) (v := .int p_p.2.2.1) (C := RX6) (T := TX6) (N := 18) hx hb hts ifX6_isClose_X6 hown hK hP 0 rfl rfl 2 (by decide) (hts (.fieldLink RX6 18 "HookPier$Plan" "closeFrom" "I") (List.mem_of_getElem? (i := 1) rfl)) (fun _ h9 => h9) rfl (zat zrX6_isClose_0_ok 2 rfl) ?_
  refine lv_aload_n hx hb (zat zrX6_isClose_0_ok 3 rfl) rfl (lv_at hl 0 rfl) ?_
  refine va_get (D := (dC, dI)) (ci := 4) (v := .int p_p.2.2.2.1) (C := RX6) (T := TX6) (N := 18) hx hb hts ifX6_isClose_X6 hown hK hP 0 rfl rfl 3 (by decide) (hts (.fieldLink RX6 21 "HookPier$Plan" "closeTo" "I") (List.mem_of_getElem? (i := 2) rfl)) (fun _ h9 => h9) rfl (zat zrX6_isClose_0_ok 4 rfl) ?_
  obtain ⟨o9, eo9⟩ : ∃ o, o = f_X10_within k1 p_p.2.2.1 p_p.2.2.2.1 := ⟨_, rfl⟩
  have h := nm_of h o9 eo9
  refine ck_i (wc := []) (wr := (bX6 a0 up kp p_p [])) hP hD hK hS hA [] [0, 1, 2, 3, 4, 5, 6, 7, 8, 9] rfl rfl (by decide) (by decide) (by decide) (fun hPc hDc => (va_runSN (As := [.int k1, .int p_p.2.2.1, .int p_p.2.2.2.1]) (rest := []) ⟨hx, hb, hml, hown, hts⟩ (kfX10_within l dC dI k1 p_p.2.2.1 p_p.2.2.2.1 s.heap.size o9 eo9.symm) ⟨va_cnB 3 hts gfX6_isClose_0 rfl rfl rfl (hN.1 (.methodLinkNest RX6 68 yX10_within "HookPier") (List.mem_of_getElem? (i := 10) rfl)) (hts (.initialized RX10) (List.mem_of_getElem? (i := 3) rfl)) (by decide +kernel) ⟨(Nat.le_of_ble_eq_true rfl), (Nat.le_of_ble_eq_true rfl)⟩, (hts (.static yX10_within) (List.mem_of_getElem? (i := 4) rfl)), trivial⟩ (PS hPc (hK.sub (tys' := ([])) [] rfl) hDc hN) rfl rfl hl.1 rfl (lv_room (Nat.le_of_ble_eq_true rfl)) (zat zrX6_isClose_0_ok 5 rfl) ⟨(Nat.le_of_ble_eq_true rfl), (Nat.le_of_ble_eq_true rfl)⟩)) (fun r9 _ H locs hw hP hD _ hS => ?_)
  obtain ⟨hw, br9⟩ := hw
  obtain rfl := hw.symm
  obtain ⟨hP, hD⟩ := pd_mk (bX6 a0 up kp p_p []) hP hD
  obtain rfl := h
  obtain ⟨hP9, hD9⟩ := pd_sub (bX6 a0 up kp p_p []) [0, 1, 2, 3, 4, 5, 6, 7, 8, 9] hP hD (by decide) rfl
  have hK9 := hK.sub (tys' := []) [] rfl
  rw [hQQ]
  exact W.zret (v := o9) hx hb hr (narz br9) (fun t ht hW => ⟨⟨o9, (), rfl, ⟨rfl, br9⟩, by rw [ht]; exact hP9, va_K.moved hW.alike hK9, hD9⟩, hS.F ht⟩) hS.2.2 (zat zrX6_isClose_0_ok 6 rfl)
noncomputable def zrX10_letTrouble_0 : List ZR := zc 0 true (.aload_n 0) 1 (zc 1 true (.iload_n 1) 1 (zc 2 true (.invokevirtual 143) 3 (zc 5 true (.istore 5) 2 (zc 7 true (.iload 5) 2 (zc 9 true (.ifCond .ne 13) 3 (zc 12 true (.aload_n 0) 1 (zc 13 true (.iload_n 2) 1 (zc 14 true (.iload_n 3) 1 (zc 15 true (.iload 4) 2 (zc 17 true (.invokevirtual 199) 3 (zc 20 true (.istore 5) 2 (zc 22 true (.iload 5) 2 (zc 24 true (.ifCond .ne 35) 3 (zc 27 true (.aload_n 0) 1 (zc 28 true (.getfield 29) 3 (zc 31 true (.getfield 146) 3 (zc 34 true (.iload_n 1) 1 (zc 35 true (.iaload) 1 (zc 36 true (.iconst (-1)) 1 (zc 37 true (.if_icmp .ne 20) 3 (zc 40 true (.aload_n 0) 1 (zc 41 true (.getfield 10) 3 (zc 44 true (.aload_n 0) 1 (zc 45 true (.getfield 29) 3 (zc 48 true (.getfield 134) 3 (zc 51 true (.invokevirtual 173) 3 (zc 54 true (.ifCond .eq 5) 3 (zc 57 true (.iconst 5) 1 (zc 58 true (.ireturn) 1 (zc 59 true (.iload 5) 2 (zc 61 true (.ireturn) 1 ([]))))))))))))))))))))))))))))))))
theorem zrX10_letTrouble_0_ok : zck 0 ((zby cX10_letTrouble).drop 0) zrX10_letTrouble_0 = true := by decide +kernel
def vfX10_letTrouble : List Cond := List.cons (.code yX10_letTrouble cX10_letTrouble 6 (some .int)) (apW [.methodLink RX10 143 yX10_askerTrouble, .instanceMethod yX10_askerTrouble, .selects RX10 yX10_askerTrouble yX10_askerTrouble, .initialized RX10, .fieldLink RX10 29 "HookPier" "now" "LHookPier$Now;", .fieldLink RX10 146 "HookPier$Now" "line" "[I", .fieldLink RX10 10 "HookPier" "plan" "LHookPier$Plan;", .fieldLink RX10 134 "HookPier$Now" "today" "I", .methodLink RX10 173 yX6_isClose, .instanceMethod yX6_isClose, .selects RX6 yX6_isClose yX6_isClose, .initialized RX6, .methodLink RX10 199 yX10_questionTrouble, .instanceMethod yX10_questionTrouble, .selects RX10 yX10_questionTrouble yX10_questionTrouble] (apW wsX100 (apW wsX40 (apW vfX10_askerTrouble (apW vfX6_isClose (vfX10_questionTrouble))))))
theorem ifX10_letTrouble_X10 : ∀ w ∈ wsX100, w ∈ vfX10_letTrouble := fun _ h => (List.mem_cons_of_mem _ (List.mem_append_right _ (List.mem_append_left _ h)))
theorem ifX10_letTrouble_X4 : ∀ w ∈ wsX40, w ∈ vfX10_letTrouble := fun _ h => (List.mem_cons_of_mem _ (List.mem_append_right _ (List.mem_append_right _ (List.mem_append_left _ h))))
theorem qfX10_letTrouble : Good vfX10_letTrouble := gd_cons (by decide +kernel) (gd_app (gd_dec (by decide +kernel) : Good [.methodLink RX10 143 yX10_askerTrouble, .instanceMethod yX10_askerTrouble, .selects RX10 yX10_askerTrouble yX10_askerTrouble, .initialized RX10, .fieldLink RX10 29 "HookPier" "now" "LHookPier$Now;", .fieldLink RX10 146 "HookPier$Now" "line" "[I", .fieldLink RX10 10 "HookPier" "plan" "LHookPier$Plan;", .fieldLink RX10 134 "HookPier$Now" "today" "I", .methodLink RX10 173 yX6_isClose, .instanceMethod yX6_isClose, .selects RX6 yX6_isClose yX6_isClose, .initialized RX6, .methodLink RX10 199 yX10_questionTrouble, .instanceMethod yX10_questionTrouble, .selects RX10 yX10_questionTrouble yX10_questionTrouble]) (gd_app qsX10 (gd_app qsX4 (gd_app qfX10_askerTrouble (gd_app qfX6_isClose qfX10_questionTrouble)))))
theorem gfX10_letTrouble_0 : GoodIn vfX10_letTrouble (wsV RX10 143 RX10 yX10_askerTrouble vfX10_askerTrouble) := goodIn_app (goodIn_r [.methodLink RX10 143 yX10_askerTrouble, .instanceMethod yX10_askerTrouble, .selects RX10 yX10_askerTrouble yX10_askerTrouble, .initialized RX10] [1, 2, 3, 4] rfl (by decide +kernel)) (goodIn_m (fun _ h => (List.mem_cons_of_mem _ (List.mem_append_right _ (List.mem_append_right _ (List.mem_append_right _ (List.mem_append_left _ h)))))) qfX10_askerTrouble)
theorem gfX10_letTrouble_1 : GoodIn vfX10_letTrouble (wsV RX10 173 RX6 yX6_isClose vfX6_isClose) := goodIn_app (goodIn_r [.methodLink RX10 173 yX6_isClose, .instanceMethod yX6_isClose, .selects RX6 yX6_isClose yX6_isClose, .initialized RX6] [9, 10, 11, 12] rfl (by decide +kernel)) (goodIn_m (fun _ h => (List.mem_cons_of_mem _ (List.mem_append_right _ (List.mem_append_right _ (List.mem_append_right _ (List.mem_append_right _ (List.mem_append_left _ h))))))) qfX6_isClose)
theorem gfX10_letTrouble_2 : GoodIn vfX10_letTrouble (wsV RX10 199 RX10 yX10_questionTrouble vfX10_questionTrouble) := goodIn_app (goodIn_r [.methodLink RX10 199 yX10_questionTrouble, .instanceMethod yX10_questionTrouble, .selects RX10 yX10_questionTrouble yX10_questionTrouble, .initialized RX10] [13, 14, 15, 4] rfl (by decide +kernel)) (goodIn_m (fun _ h => (List.mem_cons_of_mem _ (List.mem_append_right _ (List.mem_append_right _ (List.mem_append_right _ (List.mem_append_right _ (List.mem_append_right _ h))))))) qfX10_questionTrouble)
set_option maxHeartbeats 2000000 in
set_option maxRecDepth 100000 in
theorem kfX10_letTrouble (l : Launch) (dC : Nat → ClassId) (dI : Nat → Nat → Nat) (a0 : Nat) (k1 : Int32) (k2 : Int32) (k3 : Int32) (k4 : Int32) (a5 : Nat) (a6 : Nat) (up : Nat → Nat) (kp : Nat → ClassId) (un : Nat → Nat) (kn : Nat → ClassId) (g11 : Value) (g12 : Value) (g13 : Value) (g14 : Value) (g15 : Value) (g16 : Value) (g17 : Value) (g18 : Value) (p_p : TX6_p) (n_n : TX4_n) (sz : Nat) (out : Int32) (h : f_X10_letTrouble k1 k2 k3 k4 p_p n_n = some out) : KDi l yX10_letTrouble vfX10_letTrouble ({ frames := 3, cells := 0, slots := 0, locals := 66 }) (dC, dI) [.ref a0, .int k1, .int k2, .int k3, .int k4] sz ((a0, .inr (7, [.ref a5, g11, g12, .ref a6, g13, g14, g15, g16, g17, g18])) :: bX6 a5 up kp p_p (bX4 a6 un kn n_n [])) (tX6 kp (tX4 kn ([]))) (fun (r : Int32) _ => r = out) 0 0 := by
  refine Met.ofW (cc := cX10_letTrouble) (maxL := 6) (ret := (some .int)) (by decide) rfl ?_
  intro p e s m args below meth c s₁ B0 hml hv
  obtain ⟨rfl, hsz, hP, hK, hD0, hN⟩ := hv
  have hx := B0.exec
  have hb := B0.bytes
  have hr := B0.returns
  have hts := atoms_spec (ws := vfX10_letTrouble) B0.pre
  have hown : s.vm.findClass RX10 = some m.cls := findClass_of_methodNamed B0.named
  have hlocks := B0.notSynchronized
  subst hsz
  have hD := hD0.self (sz := s.heap.size)
  generalize hAe : va_A ((a0, .inr (7, [.ref a5, g11, g12, .ref a6, g13, g14, g15, g16, g17, g18])) :: bX6 a5 up kp p_p (bX4 a6 un kn n_n [])) s.heap.size = A at hD ⊢
  have hA : ∀ q : Nat, s.heap.size ≤ q → A q := fun q h => by rw [← hAe]; exact Or.inr h
  have hS : va_S A s.heap s.heap [] := va_S.rf
  have hP : va_P (dC, dI) vwCl ((a0, .inr (7, [.ref a5, g11, g12, .ref a6, g13, g14, g15, g16, g17, g18])) :: bX6 a5 up kp p_p (bX4 a6 un kn n_n [])) s.heap := hP
  have hl := lv_entry ([.ref a0, .int k1, .int k2, .int k3, .int k4]) (n := 6) (Nat.le_of_ble_eq_true rfl)
  rw [lg_entry_eq]
  generalize (lg_sl ([.ref a0, .int k1, .int k2, .int k3, .int k4]) ++ List.replicate (6 - (lg_sl ([.ref a0, .int k1, .int k2, .int k3, .int k4])).length) Slot.unset).toArray = ls at hl ⊢
  have hl : lv_has ls 6 [(0, .ref a0), (1, .int k1), (2, .int k2), (3, .int k3), (4, .int k4)] := hl
  refine W_q (fun QQ hQQ => ?_)
  rw [f_X10_letTrouble] at h
  refine lv_aload_n hx hb (zat zrX10_letTrouble_0_ok 0 rfl) rfl (lv_at hl 0 rfl) ?_
  refine lv_iload_n hx hb (zat zrX10_letTrouble_0_ok 1 rfl) rfl (lv_at hl 1 rfl) ?_
  obtain ⟨o2, eo2⟩ : ∃ o, o = f_X10_askerTrouble k1 p_p := ⟨_, rfl⟩
  have h := nm_of h o2 eo2
  refine ck_i (wc := ((a0, .inr (7, [.ref a5, g11, g12, .ref a6, g13, g14, g15, g16, g17, g18])) :: bX6 a5 up kp p_p [])) (wr := (bX4 a6 un kn n_n [])) hP hD hK hS hA [0, 1, 2, 3, 4, 5, 6, 7, 8, 9, 10] [11, 12, 13, 14, 15] rfl rfl (by decide) (by decide) (by decide) (fun hPc hDc => (va_runV (As := [.int k1]) (rest := []) ⟨hx, hb, hml, hown, hts⟩ (kfX10_askerTrouble l dC dI a0 k1 a5 up kp (g11) (g12) (.ref a6) (g13) (g14) (g15) (g16) (g17) (g18) p_p s.heap.size o2 eo2.symm) (cwV 1 hts gfX10_letTrouble_0 rfl rfl rfl (by decide +kernel) ⟨(Nat.le_of_ble_eq_true rfl), (Nat.le_of_ble_eq_true rfl)⟩) (PV hPc (hK.sub (tys' := (tX6 kp ([]))) [0, 1, 2, 3, 4, 5, 6, 7, 8] rfl) hDc hN 0 rfl rfl) rfl rfl hl.1 rfl (lv_room (Nat.le_of_ble_eq_true rfl)) (zat zrX10_letTrouble_0_ok 2 rfl) ⟨(Nat.le_of_ble_eq_true rfl), (Nat.le_of_ble_eq_true rfl)⟩)) (fun r2 _ H locs hw hP hD _ hS => ?_)
  obtain rfl := hw.symm
  obtain ⟨hP, hD⟩ := pd_mk (bX4 a6 un kn n_n ((a0, .inr (7, [.ref a5, g11, g12, .ref a6, g13, g14, g15, g16, g17, g18])) :: bX6 a5 up kp p_p [])) hP hD
  refine lv_istore (lv' := [(5, .int o2), (0, .ref a0), (1, .int k1), (2, .int k2), (3, .int k3), (4, .int k4)]) hx hb (zat zrX10_letTrouble_0_ok 3 rfl) hl (by decide) rfl (fun ls hl => ?_)
  refine lv_iload hx hb (zat zrX10_letTrouble_0_ok 4 rfl) (lv_at hl 0 rfl) ?_
  have J22 : ∀ (v22_l5 : Int32) (H : Heap) (locs : List Loc) (ls : Array Slot), f_X10_letTrouble_J22 k1 p_p n_n v22_l5 = some out → va_P (dC, dI) vwCl (bX4 a6 un kn n_n ((a0, .inr (7, [.ref a5, g11, g12, .ref a6, g13, g14, g15, g16, g17, g18])) :: bX6 a5 up kp p_p [])) H → va_D A (bX4 a6 un kn n_n ((a0, .inr (7, [.ref a5, g11, g12, .ref a6, g13, g14, g15, g16, g17, g18])) :: bX6 a5 up kp p_p [])) → va_S A s.heap H locs → lv_has ls 6 [(5, .int v22_l5), (0, .ref a0), (1, .int k1)] → W p l e (headSpec vfX10_letTrouble { frames := 3, cells := 0, slots := 0, locals := 66 }).room s m ([.ref a0, .int k1, .int k2, .int k3, .int k4]).toArray below meth c H locs 0 0 QQ (F0 m 22 ls []) := by
    intro v22_l5 H locs ls h  hP hD hS hl
    rw [f_X10_letTrouble_J22] at h
    refine lv_iload hx hb (zat zrX10_letTrouble_0_ok 12 rfl) (lv_at hl 0 rfl) ?_
    have J59 : ∀ (H : Heap) (locs : List Loc) (ls : Array Slot), f_X10_letTrouble_J59 v22_l5 = some out → va_P (dC, dI) vwCl (bX4 a6 un kn n_n ((a0, .inr (7, [.ref a5, g11, g12, .ref a6, g13, g14, g15, g16, g17, g18])) :: bX6 a5 up kp p_p [])) H → va_D A (bX4 a6 un kn n_n ((a0, .inr (7, [.ref a5, g11, g12, .ref a6, g13, g14, g15, g16, g17, g18])) :: bX6 a5 up kp p_p [])) → va_S A s.heap H locs → lv_has ls 6 [(5, .int v22_l5)] → W p l e (headSpec vfX10_letTrouble { frames := 3, cells := 0, slots := 0, locals := 66 }).room s m ([.ref a0, .int k1, .int k2, .int k3, .int k4]).toArray below meth c H locs 0 0 QQ (F0 m 59 ls []) := by
      intro  H locs ls h  hP hD hS hl
      rw [f_X10_letTrouble_J59] at h
      refine lv_iload hx hb (zat zrX10_letTrouble_0_ok 30 rfl) (lv_at hl 0 rfl) ?_
      obtain rfl := Option.some.inj h
      obtain ⟨hP9, hD9⟩ := pd_sub ((a0, .inr (7, [.ref a5, g11, g12, .ref a6, g13, g14, g15, g16, g17, g18])) :: bX6 a5 up kp p_p (bX4 a6 un kn n_n [])) [5, 6, 7, 8, 9, 10, 11, 12, 13, 14, 15, 0, 1, 2, 3, 4] hP hD (by decide) rfl
      have hK9 := hK.sub (tys' := []) [] rfl
      rw [hQQ]
      exact W.iret (v := v22_l5) hx hb hr (fun t ht hW => ⟨⟨v22_l5, (), rfl, rfl, by rw [ht]; exact hP9, va_K.moved hW.alike hK9, hD9⟩, hS.F ht⟩) hS.2.2 (zat zrX10_letTrouble_0_ok 31 rfl)
    refine lv_if_ne (tgt := 59) hx hb (zat zrX10_letTrouble_0_ok 13 rfl) (by decide) (fun c24 => ?_) (fun c24 => ?_)
    · have h := (if_neg c24).symm.trans h
      exact J59  H _ ls h  hP hD hS (lv_sub hl [0] rfl)
    · have h := (if_pos c24).symm.trans h
      refine lv_aload_n hx hb (zat zrX10_letTrouble_0_ok 14 rfl) rfl (lv_at hl 1 rfl) ?_
      refine va_get (D := (dC, dI)) (ci := 7) (v := .ref a6) (C := RX10) (T := TX10) (N := 10) hx hb hts ifX10_letTrouble_X10 hown hK hP 5 rfl rfl 3 (by decide) (hts (.fieldLink RX10 29 "HookPier" "now" "LHookPier$Now;") (List.mem_of_getElem? (i := 5) rfl)) (fun _ h9 => h9) rfl (zat zrX10_letTrouble_0_ok 15 rfl) ?_
      refine va_get (D := (dC, dI)) (ci := 3) (v := .ref (un 3)) (C := RX4) (T := TX4) (N := 7) hx hb hts ifX10_letTrouble_X4 hown hK hP 0 rfl rfl 6 (by decide) (hts (.fieldLink RX10 146 "HookPier$Now" "line" "[I") (List.mem_of_getElem? (i := 6) rfl)) (fun _ h9 => h9) rfl (zat zrX10_letTrouble_0_ok 16 rfl) ?_
      refine lv_iload_n hx hb (zat zrX10_letTrouble_0_ok 17 rfl) rfl (lv_at hl 2 rfl) ?_
      obtain ⟨hg35, h⟩ := gA_of h
      refine va_iald hx hb hK hP 4 12 rfl rfl hg35 (zat zrX10_letTrouble_0_ok 18 rfl) ?_
      refine lv_iconst (v := (-1)) hx hb (zat zrX10_letTrouble_0_ok 19 rfl) (by decide) ?_
      refine lv_icmp_ne (tgt := 57) hx hb (zat zrX10_letTrouble_0_ok 20 rfl) (by decide) (fun c37 => ?_) (fun c37 => ?_)
      · have h := (if_neg c37).symm.trans h
        refine lv_iconst (v := 5) hx hb (zat zrX10_letTrouble_0_ok 28 rfl) (by decide) ?_
        obtain rfl := Option.some.inj h
        obtain ⟨hP9, hD9⟩ := pd_sub ((a0, .inr (7, [.ref a5, g11, g12, .ref a6, g13, g14, g15, g16, g17, g18])) :: bX6 a5 up kp p_p (bX4 a6 un kn n_n [])) [5, 6, 7, 8, 9, 10, 11, 12, 13, 14, 15, 0, 1, 2, 3, 4] hP hD (by decide) rfl
        have hK9 := hK.sub (tys' := []) [] rfl
        rw [hQQ]
        exact W.iret (v := (5 : Int32)) hx hb hr (fun t ht hW => ⟨⟨(5 : Int32), (), rfl, rfl, by rw [ht]; exact hP9, va_K.moved hW.alike hK9, hD9⟩, hS.F ht⟩) hS.2.2 (zat zrX10_letTrouble_0_ok 29 rfl)
      · have h := (if_pos c37).symm.trans h
        refine lv_aload_n hx hb (zat zrX10_letTrouble_0_ok 21 rfl) rfl (lv_at hl 1 rfl) ?_
        refine va_get (D := (dC, dI)) (ci := 7) (v := .ref a5) (C := RX10) (T := TX10) (N := 10) hx hb hts ifX10_letTrouble_X10 hown hK hP 5 rfl rfl 0 (by decide) (hts (.fieldLink RX10 10 "HookPier" "plan" "LHookPier$Plan;") (List.mem_of_getElem? (i := 7) rfl)) (fun _ h9 => h9) rfl (zat zrX10_letTrouble_0_ok 22 rfl) ?_
        refine lv_aload_n hx hb (zat zrX10_letTrouble_0_ok 23 rfl) rfl (lv_at hl 1 rfl) ?_
        refine va_get (D := (dC, dI)) (ci := 7) (v := .ref a6) (C := RX10) (T := TX10) (N := 10) hx hb hts ifX10_letTrouble_X10 hown hK hP 5 rfl rfl 3 (by decide) (hts (.fieldLink RX10 29 "HookPier" "now" "LHookPier$Now;") (List.mem_of_getElem? (i := 5) rfl)) (fun _ h9 => h9) rfl (zat zrX10_letTrouble_0_ok 24 rfl) ?_
        refine va_get (D := (dC, dI)) (ci := 3) (v := .int n_n.1) (C := RX4) (T := TX4) (N := 7) hx hb hts ifX10_letTrouble_X4 hown hK hP 0 rfl rfl 0 (by decide) (hts (.fieldLink RX10 134 "HookPier$Now" "today" "I") (List.mem_of_getElem? (i := 8) rfl)) (fun _ h9 => h9) rfl (zat zrX10_letTrouble_0_ok 25 rfl) ?_
        obtain ⟨o51, eo51⟩ : ∃ o, o = f_X6_isClose n_n.1 p_p := ⟨_, rfl⟩
        have h := nm_of h o51 eo51
        refine ck_i (wc := (bX6 a5 up kp p_p [])) (wr := (bX4 a6 un kn n_n ([(a0, .inr (7, [.ref a5, g11, g12, .ref a6, g13, g14, g15, g16, g17, g18]))]))) hP hD hK hS hA [6, 7, 8, 9, 10, 11, 12, 13, 14, 15] [0, 1, 2, 3, 4, 5] rfl rfl (by decide) (by decide) (by decide) (fun hPc hDc => (va_runV (As := [.int n_n.1]) (rest := []) ⟨hx, hb, hml, hown, hts⟩ (kfX6_isClose l dC dI a5 n_n.1 up kp p_p H.size o51 eo51.symm) (cwV 1 hts gfX10_letTrouble_1 rfl rfl rfl (by decide +kernel) ⟨(Nat.le_of_ble_eq_true rfl), (Nat.le_of_ble_eq_true rfl)⟩) (PV hPc (hK.sub (tys' := (tX6 kp ([]))) [0, 1, 2, 3, 4, 5, 6, 7, 8] rfl) hDc hN 0 rfl rfl) rfl rfl hl.1 rfl (lv_room (Nat.le_of_ble_eq_true rfl)) (zat zrX10_letTrouble_0_ok 26 rfl) ⟨(Nat.le_of_ble_eq_true rfl), (Nat.le_of_ble_eq_true rfl)⟩)) (fun r51 _ H locs hw hP hD _ hS => ?_)
        obtain ⟨hw, br51⟩ := hw
        obtain rfl := hw.symm
        obtain ⟨hP, hD⟩ := pd_mk (bX4 a6 un kn n_n ((a0, .inr (7, [.ref a5, g11, g12, .ref a6, g13, g14, g15, g16, g17, g18])) :: bX6 a5 up kp p_p [])) hP hD
        refine lv_if_eq (tgt := 59) hx hb (zat zrX10_letTrouble_0_ok 27 rfl) (by decide) (fun c54 => ?_) (fun c54 => ?_)
        · have h := (if_pos c54).symm.trans h
          exact J59  H _ ls h  hP hD hS (lv_sub hl [0] rfl)
        · have h := (if_neg c54).symm.trans h
          refine lv_iconst (v := 5) hx hb (zat zrX10_letTrouble_0_ok 28 rfl) (by decide) ?_
          obtain rfl := Option.some.inj h
          obtain ⟨hP9, hD9⟩ := pd_sub ((a0, .inr (7, [.ref a5, g11, g12, .ref a6, g13, g14, g15, g16, g17, g18])) :: bX6 a5 up kp p_p (bX4 a6 un kn n_n [])) [5, 6, 7, 8, 9, 10, 11, 12, 13, 14, 15, 0, 1, 2, 3, 4] hP hD (by decide) rfl
          have hK9 := hK.sub (tys' := []) [] rfl
          rw [hQQ]
          exact W.iret (v := (5 : Int32)) hx hb hr (fun t ht hW => ⟨⟨(5 : Int32), (), rfl, rfl, by rw [ht]; exact hP9, va_K.moved hW.alike hK9, hD9⟩, hS.F ht⟩) hS.2.2 (zat zrX10_letTrouble_0_ok 29 rfl)
  refine lv_if_ne (tgt := 22) hx hb (zat zrX10_letTrouble_0_ok 5 rfl) (by decide) (fun c9 => ?_) (fun c9 => ?_)
  · have h := (if_neg c9).symm.trans h
    exact J22 o2 H _ ls h  hP hD hS (lv_sub hl [0, 1, 2] rfl)
  · have h := (if_pos c9).symm.trans h
    refine lv_aload_n hx hb (zat zrX10_letTrouble_0_ok 6 rfl) rfl (lv_at hl 1 rfl) ?_
    refine lv_iload_n hx hb (zat zrX10_letTrouble_0_ok 7 rfl) rfl (lv_at hl 3 rfl) ?_
    refine lv_iload_n hx hb (zat zrX10_letTrouble_0_ok 8 rfl) rfl (lv_at hl 4 rfl) ?_
    refine lv_iload hx hb (zat zrX10_letTrouble_0_ok 9 rfl) (lv_at hl 5 rfl) ?_
    obtain ⟨o17, eo17⟩ : ∃ o, o = f_X10_questionTrouble k2 k3 k4 p_p := ⟨_, rfl⟩
    have h := nm_of h o17 eo17
    refine ck_i (wc := ((a0, .inr (7, [.ref a5, g11, g12, .ref a6, g13, g14, g15, g16, g17, g18])) :: bX6 a5 up kp p_p [])) (wr := (bX4 a6 un kn n_n [])) hP hD hK hS hA [5, 6, 7, 8, 9, 10, 11, 12, 13, 14, 15] [0, 1, 2, 3, 4] rfl rfl (by decide) (by decide) (by decide) (fun hPc hDc => (va_runV (As := [.int k2, .int k3, .int k4]) (rest := []) ⟨hx, hb, hml, hown, hts⟩ (kfX10_questionTrouble l dC dI a0 k2 k3 k4 a5 up kp (g11) (g12) (.ref a6) (g13) (g14) (g15) (g16) (g17) (g18) p_p H.size o17 eo17.symm) (cwV 3 hts gfX10_letTrouble_2 rfl rfl rfl (by decide +kernel) ⟨(Nat.le_of_ble_eq_true rfl), (Nat.le_of_ble_eq_true rfl)⟩) (PV hPc (hK.sub (tys' := (tX6 kp ([]))) [0, 1, 2, 3, 4, 5, 6, 7, 8] rfl) hDc hN 0 rfl rfl) rfl rfl hl.1 rfl (lv_room (Nat.le_of_ble_eq_true rfl)) (zat zrX10_letTrouble_0_ok 10 rfl) ⟨(Nat.le_of_ble_eq_true rfl), (Nat.le_of_ble_eq_true rfl)⟩)) (fun r17 _ H locs hw hP hD _ hS => ?_)
    obtain rfl := hw.symm
    obtain ⟨hP, hD⟩ := pd_mk (bX4 a6 un kn n_n ((a0, .inr (7, [.ref a5, g11, g12, .ref a6, g13, g14, g15, g16, g17, g18])) :: bX6 a5 up kp p_p [])) hP hD
    refine lv_istore (lv' := [(5, .int o17), (0, .ref a0), (1, .int k1), (2, .int k2), (3, .int k3), (4, .int k4)]) hx hb (zat zrX10_letTrouble_0_ok 11 rfl) hl (by decide) rfl (fun ls hl => ?_)
    exact J22 o17 H _ ls h  hP hD hS (lv_sub hl [0, 1, 2] rfl)
noncomputable def zrX10_refused_0 : List ZR := zc 0 true (.aload_n 0) 1 (zc 1 true (.iload_n 1) 1 (zc 2 true (.putfield 61) 3 (zc 5 true (.iload_n 1) 1 (zc 6 true (.ifCond .eq 7) 3 (zc 9 true (.iconst 1) 1 (zc 10 true (.goto 4) 3 (zc 13 true (.iconst 0) 1 (zc 14 true (.ireturn) 1 ([])))))))))
theorem zrX10_refused_0_ok : zck 0 ((zby cX10_refused).drop 0) zrX10_refused_0 = true := by decide +kernel
def vfX10_refused : List Cond := List.cons (.code yX10_refused cX10_refused 2 (some .boolean)) (apW [.fieldLink RX10 61 "HookPier" "troubleNow" "I"] (wsX100))
theorem ifX10_refused_X10 : ∀ w ∈ wsX100, w ∈ vfX10_refused := fun _ h => (List.mem_cons_of_mem _ (List.mem_append_right _ h))
theorem qfX10_refused : Good vfX10_refused := gd_cons (by decide +kernel) (gd_app (gd_dec (by decide +kernel) : Good [.fieldLink RX10 61 "HookPier" "troubleNow" "I"]) qsX10)
set_option maxHeartbeats 2000000 in
set_option maxRecDepth 100000 in
theorem kfX10_refused (l : Launch) (dC : Nat → ClassId) (dI : Nat → Nat → Nat) (a0 : Nat) (k1 : Int32) (x_x : TX10_x) (g3 : Value) (g4 : Value) (g5 : Value) (g6 : Value) (g7 : Value) (g8 : Value) (g9 : Value) (g10 : Value) (sz : Nat) (out : (Int32 × TX10_x)) (h : f_X10_refused k1 x_x = out) : KCi l yX10_refused vfX10_refused ({ frames := 0, cells := 0, slots := 0, locals := 0 }) (dC, dI) [.ref a0, .int k1] sz ([(a0, .inr (7, [g3, g4, g5, g6, g7, g8, g9, g10, .int x_x.1, .int x_x.2]))]) ([]) (fun (r : Int32) _ => r = out.1 ∧ (0 ≤ r.toInt ∧ r.toInt ≤ 1)) ([(a0, .inr (7, [g3, g4, g5, g6, g7, g8, g9, g10, .int out.2.1, .int out.2.2]))]) 0 0 := by
  refine Met.ofW (cc := cX10_refused) (maxL := 2) (ret := (some .boolean)) (by decide) rfl ?_
  intro p e s m args below meth c s₁ B0 hml hv
  obtain ⟨rfl, hsz, hP, hK, hD0, hN⟩ := hv
  have hx := B0.exec
  have hb := B0.bytes
  have hr := B0.returns
  have hts := atoms_spec (ws := vfX10_refused) B0.pre
  have hown : s.vm.findClass RX10 = some m.cls := findClass_of_methodNamed B0.named
  have hlocks := B0.notSynchronized
  subst hsz
  have hD := hD0.self (sz := s.heap.size)
  generalize hAe : va_A ([(a0, .inr (7, [g3, g4, g5, g6, g7, g8, g9, g10, .int x_x.1, .int x_x.2]))]) s.heap.size = A at hD ⊢
  have hA : ∀ q : Nat, s.heap.size ≤ q → A q := fun q h => by rw [← hAe]; exact Or.inr h
  have hS : va_S A s.heap s.heap [] := va_S.rf
  have hP : va_P (dC, dI) vwCl ([(a0, .inr (7, [g3, g4, g5, g6, g7, g8, g9, g10, .int x_x.1, .int x_x.2]))]) s.heap := hP
  have hl := lv_entry ([.ref a0, .int k1]) (n := 2) (Nat.le_of_ble_eq_true rfl)
  rw [lg_entry_eq]
  generalize (lg_sl ([.ref a0, .int k1]) ++ List.replicate (2 - (lg_sl ([.ref a0, .int k1])).length) Slot.unset).toArray = ls at hl ⊢
  have hl : lv_has ls 2 [(0, .ref a0), (1, .int k1)] := hl
  refine W_q (fun QQ hQQ => ?_)
  rw [f_X10_refused] at h
  refine lv_aload_n hx hb (zat zrX10_refused_0_ok 0 rfl) rfl (lv_at hl 0 rfl) ?_
  refine lv_iload_n hx hb (zat zrX10_refused_0_ok 1 rfl) rfl (lv_at hl 1 rfl) ?_
  refine va_put (D := (dC, dI)) (ci := 7) (v := .int k1) (ty := .int) (C := RX10) (T := TX10) (N := 10) hx hb hts ifX10_refused_X10 tyX10 tyX10_ok nmX10 hown hK hP hD hS 0 rfl rfl 8 (by decide) (hts (.fieldLink RX10 61 "HookPier" "troubleNow" "I") (List.mem_of_getElem? (i := 1) rfl)) (fun _ h9 => h9) rfl (by decide +kernel) rfl rfl (Nat.le_of_ble_eq_true rfl) (zat zrX10_refused_0_ok 2 rfl) (fun H locs hP hD hS => ?_)
  obtain ⟨hP, hD⟩ := pd_mk ([(a0, .inr (7, [g3, g4, g5, g6, g7, g8, g9, g10, .int k1, .int x_x.2]))]) hP hD
  refine lv_iload_n hx hb (zat zrX10_refused_0_ok 3 rfl) rfl (lv_at hl 1 rfl) ?_
  refine lv_if_eq (tgt := 13) hx hb (zat zrX10_refused_0_ok 4 rfl) (by decide) (fun c6 => ?_) (fun c6 => ?_)
  · have h := (if_pos c6).symm.trans h
    refine lv_iconst (v := 0) hx hb (zat zrX10_refused_0_ok 7 rfl) (by decide) ?_
    obtain rfl := h
    obtain ⟨hP9, hD9⟩ := pd_sub ([(a0, .inr (7, [g3, g4, g5, g6, g7, g8, g9, g10, .int k1, .int x_x.2]))]) [0] hP hD (by decide) rfl
    have hK9 := hK.sub (tys' := []) [] rfl
    rw [hQQ]
    exact W.zret (v := (0 : Int32)) hx hb hr rfl (fun t ht hW => ⟨⟨(0 : Int32), (), rfl, ⟨rfl, (by decide)⟩, by rw [ht]; exact hP9, va_K.moved hW.alike hK9, hD9⟩, hS.F ht⟩) hS.2.2 (zat zrX10_refused_0_ok 8 rfl)
  · have h := (if_neg c6).symm.trans h
    refine lv_iconst (v := 1) hx hb (zat zrX10_refused_0_ok 5 rfl) (by decide) ?_
    refine lv_goto (tgt := 14) hx hb (zat zrX10_refused_0_ok 6 rfl) (by decide) ?_
    obtain rfl := h
    obtain ⟨hP9, hD9⟩ := pd_sub ([(a0, .inr (7, [g3, g4, g5, g6, g7, g8, g9, g10, .int k1, .int x_x.2]))]) [0] hP hD (by decide) rfl
    have hK9 := hK.sub (tys' := []) [] rfl
    rw [hQQ]
    exact W.zret (v := (1 : Int32)) hx hb hr rfl (fun t ht hW => ⟨⟨(1 : Int32), (), rfl, ⟨rfl, (by decide)⟩, by rw [ht]; exact hP9, va_K.moved hW.alike hK9, hD9⟩, hS.F ht⟩) hS.2.2 (zat zrX10_refused_0_ok 8 rfl)
noncomputable def zrX10_let_0 : List ZR := zc 0 true (.aload_n 0) 1 (zc 1 true (.aload_n 0) 1 (zc 2 true (.iload_n 1) 1 (zc 3 true (.iload_n 2) 1 (zc 4 true (.iload_n 3) 1 (zc 5 true (.iload 4) 2 (zc 7 true (.invokevirtual 337) 3 (zc 10 true (.invokevirtual 79) 3 (zc 13 true (.ifCond .eq 5) 3 (zc 16 true (.iconst 0) 1 (zc 17 true (.ireturn) 1 (zc 18 true (.aload_n 0) 1 (zc 19 true (.getfield 36) 3 (zc 22 true (.aload_n 0) 1 (zc 23 true (.getfield 29) 3 (zc 26 true (.invokevirtual 340) 3 (zc 29 true (.aload_n 0) 1 (zc 30 true (.getfield 29) 3 (zc 33 true (.getfield 146) 3 (zc 36 true (.iload_n 1) 1 (zc 37 true (.iload_n 2) 1 (zc 38 true (.iload_n 3) 1 (zc 39 true (.iload 4) 2 (zc 41 true (.invokestatic 180) 3 (zc 44 true (.iastore) 1 (zc 45 true (.iconst 1) 1 (zc 46 true (.ireturn) 1 ([])))))))))))))))))))))))))))
theorem zrX10_let_0_ok : zck 0 ((zby cX10_let).drop 0) zrX10_let_0 = true := by decide +kernel
def vfX10_let : List Cond := List.cons (.code yX10_let cX10_let 5 (some .boolean)) (apW [.methodLink RX10 337 yX10_letTrouble, .instanceMethod yX10_letTrouble, .selects RX10 yX10_letTrouble yX10_letTrouble, .initialized RX10, .methodLink RX10 79 yX10_refused, .instanceMethod yX10_refused, .selects RX10 yX10_refused yX10_refused, .fieldLink RX10 36 "HookPier" "history" "LHookPier$History;", .fieldLink RX10 29 "HookPier" "now" "LHookPier$Now;", .methodLink RX10 340 yX2_keep, .instanceMethod yX2_keep, .selects RX2 yX2_keep yX2_keep, .initialized RX2, .fieldLink RX10 146 "HookPier$Now" "line" "[I", .methodLink RX10 180 yX10_question, .static yX10_question] (apW wsX100 (apW wsX40 (apW vfX10_letTrouble (apW vfX10_refused (apW vfX2_keep (vfX10_question)))))))
theorem ifX10_let_X10 : ∀ w ∈ wsX100, w ∈ vfX10_let := fun _ h => (List.mem_cons_of_mem _ (List.mem_append_right _ (List.mem_append_left _ h)))
theorem ifX10_let_X4 : ∀ w ∈ wsX40, w ∈ vfX10_let := fun _ h => (List.mem_cons_of_mem _ (List.mem_append_right _ (List.mem_append_right _ (List.mem_append_left _ h))))
theorem qfX10_let : Good vfX10_let := gd_cons (by decide +kernel) (gd_app (gd_dec (by decide +kernel) : Good [.methodLink RX10 337 yX10_letTrouble, .instanceMethod yX10_letTrouble, .selects RX10 yX10_letTrouble yX10_letTrouble, .initialized RX10, .methodLink RX10 79 yX10_refused, .instanceMethod yX10_refused, .selects RX10 yX10_refused yX10_refused, .fieldLink RX10 36 "HookPier" "history" "LHookPier$History;", .fieldLink RX10 29 "HookPier" "now" "LHookPier$Now;", .methodLink RX10 340 yX2_keep, .instanceMethod yX2_keep, .selects RX2 yX2_keep yX2_keep, .initialized RX2, .fieldLink RX10 146 "HookPier$Now" "line" "[I", .methodLink RX10 180 yX10_question, .static yX10_question]) (gd_app qsX10 (gd_app qsX4 (gd_app qfX10_letTrouble (gd_app qfX10_refused (gd_app qfX2_keep qfX10_question))))))
theorem gfX10_let_0 : GoodIn vfX10_let (wsV RX10 337 RX10 yX10_letTrouble vfX10_letTrouble) := goodIn_app (goodIn_r [.methodLink RX10 337 yX10_letTrouble, .instanceMethod yX10_letTrouble, .selects RX10 yX10_letTrouble yX10_letTrouble, .initialized RX10] [1, 2, 3, 4] rfl (by decide +kernel)) (goodIn_m (fun _ h => (List.mem_cons_of_mem _ (List.mem_append_right _ (List.mem_append_right _ (List.mem_append_right _ (List.mem_append_left _ h)))))) qfX10_letTrouble)
theorem gfX10_let_1 : GoodIn vfX10_let (wsV RX10 79 RX10 yX10_refused vfX10_refused) := goodIn_app (goodIn_r [.methodLink RX10 79 yX10_refused, .instanceMethod yX10_refused, .selects RX10 yX10_refused yX10_refused, .initialized RX10] [5, 6, 7, 4] rfl (by decide +kernel)) (goodIn_m (fun _ h => (List.mem_cons_of_mem _ (List.mem_append_right _ (List.mem_append_right _ (List.mem_append_right _ (List.mem_append_right _ (List.mem_append_left _ h))))))) qfX10_refused)
theorem gfX10_let_2 : GoodIn vfX10_let (wsV RX10 340 RX2 yX2_keep vfX2_keep) := goodIn_app (goodIn_r [.methodLink RX10 340 yX2_keep, .instanceMethod yX2_keep, .selects RX2 yX2_keep yX2_keep, .initialized RX2] [10, 11, 12, 13] rfl (by decide +kernel)) (goodIn_m (fun _ h => (List.mem_cons_of_mem _ (List.mem_append_right _ (List.mem_append_right _ (List.mem_append_right _ (List.mem_append_right _ (List.mem_append_right _ (List.mem_append_left _ h)))))))) qfX2_keep)
theorem gfX10_let_3 : GoodIn vfX10_let (va_wsS RX10 180 yX10_question vfX10_question) := goodIn_app (goodIn_r [.methodLink RX10 180 yX10_question, .static yX10_question, .initialized RX10] [15, 16, 4] rfl (by decide +kernel)) (goodIn_m (fun _ h => (List.mem_cons_of_mem _ (List.mem_append_right _ (List.mem_append_right _ (List.mem_append_right _ (List.mem_append_right _ (List.mem_append_right _ (List.mem_append_right _ h)))))))) qfX10_question)
set_option maxHeartbeats 2000000 in
set_option maxRecDepth 100000 in
theorem kfX10_let (l : Launch) (dC : Nat → ClassId) (dI : Nat → Nat → Nat) (a0 : Nat) (k1 : Int32) (k2 : Int32) (k3 : Int32) (k4 : Int32) (a5 : Nat) (a6 : Nat) (a7 : Nat) (a8 : Nat) (a9 : Nat) (un : Nat → Nat) (kn : Nat → ClassId) (up : Nat → Nat) (kp : Nat → ClassId) (un2 : Nat → Nat) (kn2 : Nat → ClassId) (x_x : TX10_x) (g17 : Value) (g18 : Value) (g19 : Value) (g20 : Value) (g21 : Value) (n_n : TX4_n) (p_p : TX6_p) (n2_n : TX4_n) (h_h : TX2_h) (g26 : Value) (cB27 : ClassId) (kf28 : Nat → Option Nat) (sz : Nat) (hk : kf28 (((h_h.1 + h_h.2.1) - (h_h.1 + h_h.2.1) / (16 : Int32) * (16 : Int32))).toNatClampNeg = some a5) (out : (Int32 × TX10_x × TX4_n × TX4_n × TX2_h)) (h : f_X10_let k1 k2 k3 k4 x_x n_n p_p n2_n h_h = some out) : KCi l yX10_let vfX10_let ({ frames := 4, cells := 0, slots := 0, locals := 103 }) (dC, dI) [.ref a0, .int k1, .int k2, .int k3, .int k4] sz ((a0, .inr (7, [.ref a6, g17, g18, .ref a7, .ref a8, g19, g20, g21, .int x_x.1, .int x_x.2])) :: bX4 a5 un kn n_n (bX6 a6 up kp p_p (bX4 a7 un2 kn2 n2_n ([(a8, .inr (2, [.ref a9, g26, .int h_h.1, .int h_h.2.1, .int h_h.2.2])), (a9, .inl (cB27, 16, .inr (.inr (.inr (.inr kf28)))))])))) (tX4 kn (tX6 kp (tX4 kn2 ((cB27, .object RX4) :: [])))) (fun (r : Int32) _ => r = out.1 ∧ (0 ≤ r.toInt ∧ r.toInt ≤ 1)) ((a0, .inr (7, [.ref a6, g17, g18, .ref a7, .ref a8, g19, g20, g21, .int out.2.1.1, .int out.2.1.2])) :: bX4 a5 un kn out.2.2.1 (bX6 a6 up kp p_p (bX4 a7 un2 kn2 out.2.2.2.1 ([(a8, .inr (2, [.ref a9, g26, .int out.2.2.2.2.1, .int out.2.2.2.2.2.1, .int out.2.2.2.2.2.2])), (a9, .inl (cB27, 16, .inr (.inr (.inr (.inr kf28)))))])))) 0 0 := by
  refine Met.ofW (cc := cX10_let) (maxL := 5) (ret := (some .boolean)) (by decide) rfl ?_
  intro p e s m args below meth c s₁ B0 hml hv
  obtain ⟨rfl, hsz, hP, hK, hD0, hN⟩ := hv
  have hx := B0.exec
  have hb := B0.bytes
  have hr := B0.returns
  have hts := atoms_spec (ws := vfX10_let) B0.pre
  have hown : s.vm.findClass RX10 = some m.cls := findClass_of_methodNamed B0.named
  have hlocks := B0.notSynchronized
  subst hsz
  have hD := hD0.self (sz := s.heap.size)
  generalize hAe : va_A ((a0, .inr (7, [.ref a6, g17, g18, .ref a7, .ref a8, g19, g20, g21, .int x_x.1, .int x_x.2])) :: bX4 a5 un kn n_n (bX6 a6 up kp p_p (bX4 a7 un2 kn2 n2_n ([(a8, .inr (2, [.ref a9, g26, .int h_h.1, .int h_h.2.1, .int h_h.2.2])), (a9, .inl (cB27, 16, .inr (.inr (.inr (.inr kf28)))))])))) s.heap.size = A at hD ⊢
  have hA : ∀ q : Nat, s.heap.size ≤ q → A q := fun q h => by rw [← hAe]; exact Or.inr h
  have hS : va_S A s.heap s.heap [] := va_S.rf
  have hP : va_P (dC, dI) vwCl ((a0, .inr (7, [.ref a6, g17, g18, .ref a7, .ref a8, g19, g20, g21, .int x_x.1, .int x_x.2])) :: bX4 a5 un kn n_n (bX6 a6 up kp p_p (bX4 a7 un2 kn2 n2_n ([(a8, .inr (2, [.ref a9, g26, .int h_h.1, .int h_h.2.1, .int h_h.2.2])), (a9, .inl (cB27, 16, .inr (.inr (.inr (.inr kf28)))))])))) s.heap := hP
  have hl := lv_entry ([.ref a0, .int k1, .int k2, .int k3, .int k4]) (n := 5) (Nat.le_of_ble_eq_true rfl)
  rw [lg_entry_eq]
  generalize (lg_sl ([.ref a0, .int k1, .int k2, .int k3, .int k4]) ++ List.replicate (5 - (lg_sl ([.ref a0, .int k1, .int k2, .int k3, .int k4])).length) Slot.unset).toArray = ls at hl ⊢
  have hl : lv_has ls 5 [(0, .ref a0), (1, .int k1), (2, .int k2), (3, .int k3), (4, .int k4)] := hl
  refine W_q (fun QQ hQQ => ?_)
  rw [f_X10_let] at h
  refine lv_aload_n hx hb (zat zrX10_let_0_ok 0 rfl) rfl (lv_at hl 0 rfl) ?_
  refine lv_aload_n hx hb (zat zrX10_let_0_ok 1 rfl) rfl (lv_at hl 0 rfl) ?_
  refine lv_iload_n hx hb (zat zrX10_let_0_ok 2 rfl) rfl (lv_at hl 1 rfl) ?_
  refine lv_iload_n hx hb (zat zrX10_let_0_ok 3 rfl) rfl (lv_at hl 2 rfl) ?_
  refine lv_iload_n hx hb (zat zrX10_let_0_ok 4 rfl) rfl (lv_at hl 3 rfl) ?_
  refine lv_iload hx hb (zat zrX10_let_0_ok 5 rfl) (lv_at hl 4 rfl) ?_
  obtain ⟨o7, eo7, h⟩ := bd_of h
  refine ck_i (wc := ((a0, .inr (7, [.ref a6, g17, g18, .ref a7, .ref a8, g19, g20, g21, .int x_x.1, .int x_x.2])) :: bX6 a6 up kp p_p (bX4 a7 un2 kn2 n2_n []))) (wr := (bX4 a5 un kn n_n ([(a8, .inr (2, [.ref a9, g26, .int h_h.1, .int h_h.2.1, .int h_h.2.2])), (a9, .inl (cB27, 16, .inr (.inr (.inr (.inr kf28)))))]))) hP hD hK hS hA [0, 6, 7, 8, 9, 10, 11, 12, 13, 14, 15, 16, 17, 18, 19, 20] [1, 2, 3, 4, 5, 21, 22] rfl rfl (by decide) (by decide) (by decide) (fun hPc hDc => (va_runV (As := [.int k1, .int k2, .int k3, .int k4]) (rest := [.ref a0]) ⟨hx, hb, hml, hown, hts⟩ (kfX10_letTrouble l dC dI a0 k1 k2 k3 k4 a6 a7 up kp un2 kn2 (g17) (g18) (.ref a8) (g19) (g20) (g21) (.int x_x.1) (.int x_x.2) p_p n2_n s.heap.size o7 eo7) (cwV 4 hts gfX10_let_0 rfl rfl rfl (by decide +kernel) ⟨(Nat.le_of_ble_eq_true rfl), (Nat.le_of_ble_eq_true rfl)⟩) (PV hPc (hK.sub (tys' := (tX6 kp (tX4 kn2 ([])))) [4, 5, 6, 7, 8, 9, 10, 11, 12, 13, 14, 15, 16] rfl) hDc hN 0 rfl rfl) rfl rfl hl.1 rfl (lv_room (Nat.le_of_ble_eq_true rfl)) (zat zrX10_let_0_ok 6 rfl) ⟨(Nat.le_of_ble_eq_true rfl), (Nat.le_of_ble_eq_true rfl)⟩)) (fun r7 _ H locs hw hP hD _ hS => ?_)
  obtain rfl := hw.symm
  obtain ⟨hP, hD⟩ := pd_mk (bX4 a5 un kn n_n ((a8, .inr (2, [.ref a9, g26, .int h_h.1, .int h_h.2.1, .int h_h.2.2])) :: (a9, .inl (cB27, 16, .inr (.inr (.inr (.inr kf28))))) :: (a0, .inr (7, [.ref a6, g17, g18, .ref a7, .ref a8, g19, g20, g21, .int x_x.1, .int x_x.2])) :: bX6 a6 up kp p_p (bX4 a7 un2 kn2 n2_n []))) hP hD
  obtain ⟨o10, eo10⟩ : ∃ o, o = f_X10_refused o7 x_x := ⟨_, rfl⟩
  have h := nm_of h o10 eo10
  refine ck_i (wc := ([(a0, .inr (7, [.ref a6, g17, g18, .ref a7, .ref a8, g19, g20, g21, .int x_x.1, .int x_x.2]))])) (wr := (bX4 a5 un kn n_n ((a8, .inr (2, [.ref a9, g26, .int h_h.1, .int h_h.2.1, .int h_h.2.2])) :: (a9, .inl (cB27, 16, .inr (.inr (.inr (.inr kf28))))) :: bX6 a6 up kp p_p (bX4 a7 un2 kn2 n2_n [])))) hP hD hK hS hA [7] [0, 1, 2, 3, 4, 5, 6, 8, 9, 10, 11, 12, 13, 14, 15, 16, 17, 18, 19, 20, 21, 22] rfl rfl (by decide) (by decide) (by decide) (fun hPc hDc => (va_runV (As := [.int o7]) (rest := []) ⟨hx, hb, hml, hown, hts⟩ (kfX10_refused l dC dI a0 o7 x_x (.ref a6) (g17) (g18) (.ref a7) (.ref a8) (g19) (g20) (g21) H.size o10 eo10.symm) (cwV 1 hts gfX10_let_1 rfl rfl rfl (by decide +kernel) ⟨(Nat.le_of_ble_eq_true rfl), (Nat.le_of_ble_eq_true rfl)⟩) (PV hPc (hK.sub (tys' := ([])) [] rfl) hDc hN 0 rfl rfl) rfl rfl hl.1 rfl (lv_room (Nat.le_of_ble_eq_true rfl)) (zat zrX10_let_0_ok 7 rfl) ⟨(Nat.le_of_ble_eq_true rfl), (Nat.le_of_ble_eq_true rfl)⟩)) (fun r10 _ H locs hw hP hD _ hS => ?_)
  obtain ⟨hw, br10⟩ := hw
  obtain rfl := hw
  obtain ⟨hP, hD⟩ := pd_mk (bX4 a5 un kn n_n ((a8, .inr (2, [.ref a9, g26, .int h_h.1, .int h_h.2.1, .int h_h.2.2])) :: (a9, .inl (cB27, 16, .inr (.inr (.inr (.inr kf28))))) :: bX6 a6 up kp p_p (bX4 a7 un2 kn2 n2_n ([(a0, .inr (7, [.ref a6, g17, g18, .ref a7, .ref a8, g19, g20, g21, .int o10.2.1, .int o10.2.2]))])))) hP hD
  refine lv_if_eq (tgt := 18) hx hb (zat zrX10_let_0_ok 8 rfl) (by decide) (fun c13 => ?_) (fun c13 => ?_)
  · have h := (if_pos c13).symm.trans h
    refine lv_aload_n hx hb (zat zrX10_let_0_ok 11 rfl) rfl (lv_at hl 0 rfl) ?_
    refine va_get (D := (dC, dI)) (ci := 7) (v := .ref a8) (C := RX10) (T := TX10) (N := 10) hx hb hts ifX10_let_X10 hown hK hP 22 rfl rfl 4 (by decide) (hts (.fieldLink RX10 36 "HookPier" "history" "LHookPier$History;") (List.mem_of_getElem? (i := 8) rfl)) (fun _ h9 => h9) rfl (zat zrX10_let_0_ok 12 rfl) ?_
    refine lv_aload_n hx hb (zat zrX10_let_0_ok 13 rfl) rfl (lv_at hl 0 rfl) ?_
    refine va_get (D := (dC, dI)) (ci := 7) (v := .ref a7) (C := RX10) (T := TX10) (N := 10) hx hb hts ifX10_let_X10 hown hK hP 22 rfl rfl 3 (by decide) (hts (.fieldLink RX10 29 "HookPier" "now" "LHookPier$Now;") (List.mem_of_getElem? (i := 9) rfl)) (fun _ h9 => h9) rfl (zat zrX10_let_0_ok 14 rfl) ?_
    obtain ⟨o26, eo26, h⟩ := bd_of h
    refine ck_v (wc := ((a8, .inr (2, [.ref a9, g26, .int h_h.1, .int h_h.2.1, .int h_h.2.2])) :: bX4 a7 un2 kn2 n2_n (bX4 a5 un kn n_n ([(a9, .inl (cB27, 16, .inr (.inr (.inr (.inr kf28)))))])))) (wr := (bX6 a6 up kp p_p ([(a0, .inr (7, [.ref a6, g17, g18, .ref a7, .ref a8, g19, g20, g21, .int o10.2.1, .int o10.2.2]))]))) hP hD hK hS hA [5, 17, 18, 19, 20, 21, 0, 1, 2, 3, 4, 6] [7, 8, 9, 10, 11, 12, 13, 14, 15, 16, 22] rfl rfl (by decide) (by decide) (by decide) (fun hPc hDc => (va_runV (As := [.ref a7]) (rest := []) ⟨hx, hb, hml, hown, hts⟩ (kfX2_keep l dC dI a8 a7 a5 a9 un2 kn2 un kn h_h (g26) n2_n n_n cB27 kf28 H.size hk o26 eo26) (cwV 1 hts gfX10_let_2 rfl rfl rfl (by decide +kernel) ⟨(Nat.le_of_ble_eq_true rfl), (Nat.le_of_ble_eq_true rfl)⟩) (PV hPc (hK.sub (tys' := (tX4 kn2 (tX4 kn ((cB27, .object RX4) :: [])))) [13, 14, 15, 16, 0, 1, 2, 3, 17] rfl) hDc hN 0 rfl rfl) rfl rfl hl.1 rfl (lv_room (Nat.le_of_ble_eq_true rfl)) (zat zrX10_let_0_ok 15 rfl) ⟨(Nat.le_of_ble_eq_true rfl), (Nat.le_of_ble_eq_true rfl)⟩)) (fun _ H locs hw hP hD _ hS => ?_)
    obtain ⟨hP, hD⟩ := pd_mk (bX6 a6 up kp p_p ((a0, .inr (7, [.ref a6, g17, g18, .ref a7, .ref a8, g19, g20, g21, .int o10.2.1, .int o10.2.2])) :: (a8, .inr (2, [.ref a9, g26, .int o26.1.1, .int o26.1.2.1, .int o26.1.2.2])) :: bX4 a7 un2 kn2 n2_n (bX4 a5 un kn o26.2 ([(a9, .inl (cB27, 16, .inr (.inr (.inr (.inr kf28)))))])))) hP hD
    refine lv_aload_n hx hb (zat zrX10_let_0_ok 16 rfl) rfl (lv_at hl 0 rfl) ?_
    refine va_get (D := (dC, dI)) (ci := 7) (v := .ref a7) (C := RX10) (T := TX10) (N := 10) hx hb hts ifX10_let_X10 hown hK hP 10 rfl rfl 3 (by decide) (hts (.fieldLink RX10 29 "HookPier" "now" "LHookPier$Now;") (List.mem_of_getElem? (i := 9) rfl)) (fun _ h9 => h9) rfl (zat zrX10_let_0_ok 17 rfl) ?_
    refine va_get (D := (dC, dI)) (ci := 3) (v := .ref (un2 3)) (C := RX4) (T := TX4) (N := 7) hx hb hts ifX10_let_X4 hown hK hP 12 rfl rfl 6 (by decide) (hts (.fieldLink RX10 146 "HookPier$Now" "line" "[I") (List.mem_of_getElem? (i := 14) rfl)) (fun _ h9 => h9) rfl (zat zrX10_let_0_ok 18 rfl) ?_
    refine lv_iload_n hx hb (zat zrX10_let_0_ok 19 rfl) rfl (lv_at hl 1 rfl) ?_
    refine lv_iload_n hx hb (zat zrX10_let_0_ok 20 rfl) rfl (lv_at hl 2 rfl) ?_
    refine lv_iload_n hx hb (zat zrX10_let_0_ok 21 rfl) rfl (lv_at hl 3 rfl) ?_
    refine lv_iload hx hb (zat zrX10_let_0_ok 22 rfl) (lv_at hl 4 rfl) ?_
    obtain ⟨o41, eo41⟩ : ∃ o, o = f_X10_question k2 k3 k4 := ⟨_, rfl⟩
    have h := nm_of h o41 eo41
    refine ck_i (wc := []) (wr := (bX6 a6 up kp p_p ((a0, .inr (7, [.ref a6, g17, g18, .ref a7, .ref a8, g19, g20, g21, .int o10.2.1, .int o10.2.2])) :: (a8, .inr (2, [.ref a9, g26, .int o26.1.1, .int o26.1.2.1, .int o26.1.2.2])) :: bX4 a7 un2 kn2 n2_n (bX4 a5 un kn o26.2 ([(a9, .inl (cB27, 16, .inr (.inr (.inr (.inr kf28)))))]))))) hP hD hK hS hA [] [0, 1, 2, 3, 4, 5, 6, 7, 8, 9, 10, 11, 12, 13, 14, 15, 16, 17, 18, 19, 20, 21, 22] rfl rfl (by decide) (by decide) (by decide) (fun hPc hDc => (va_runS (As := [.int k2, .int k3, .int k4]) (rest := [.int k1, .ref (un2 3)]) ⟨hx, hb, hml, hown, hts⟩ (kfX10_question l dC dI k2 k3 k4 H.size o41 eo41.symm) (va_cwS 3 hts gfX10_let_3 rfl rfl rfl (by decide +kernel) ⟨(Nat.le_of_ble_eq_true rfl), (Nat.le_of_ble_eq_true rfl)⟩) (PS hPc (hK.sub (tys' := ([])) [] rfl) hDc hN) rfl rfl hl.1 rfl (lv_room (Nat.le_of_ble_eq_true rfl)) (zat zrX10_let_0_ok 23 rfl) ⟨(Nat.le_of_ble_eq_true rfl), (Nat.le_of_ble_eq_true rfl)⟩)) (fun r41 _ H locs hw hP hD _ hS => ?_)
    obtain rfl := hw.symm
    obtain ⟨hP, hD⟩ := pd_mk (bX6 a6 up kp p_p ((a0, .inr (7, [.ref a6, g17, g18, .ref a7, .ref a8, g19, g20, g21, .int o10.2.1, .int o10.2.2])) :: (a8, .inr (2, [.ref a9, g26, .int o26.1.1, .int o26.1.2.1, .int o26.1.2.2])) :: bX4 a7 un2 kn2 n2_n (bX4 a5 un kn o26.2 ([(a9, .inl (cB27, 16, .inr (.inr (.inr (.inr kf28)))))])))) hP hD
    obtain ⟨hg44, h⟩ := gA_of h
    refine va_iast hx hb hK hP hD hS 16 16 rfl rfl hg44 (zat zrX10_let_0_ok 24 rfl) (fun H locs hP hD hS => ?_)
    obtain ⟨hP, hD⟩ := pd_mk (bX6 a6 up kp p_p ((a0, .inr (7, [.ref a6, g17, g18, .ref a7, .ref a8, g19, g20, g21, .int o10.2.1, .int o10.2.2])) :: (a8, .inr (2, [.ref a9, g26, .int o26.1.1, .int o26.1.2.1, .int o26.1.2.2])) :: bX4 a7 un2 kn2 (n2_n.1, n2_n.2.1, n2_n.2.2.1, n2_n.2.2.2.1, n2_n.2.2.2.2.1, n2_n.2.2.2.2.2.1, (upd n2_n.2.2.2.2.2.2 (k1).toNatClampNeg o41)) (bX4 a5 un kn o26.2 ([(a9, .inl (cB27, 16, .inr (.inr (.inr (.inr kf28)))))])))) hP hD
    refine lv_iconst (v := 1) hx hb (zat zrX10_let_0_ok 25 rfl) (by decide) ?_
    obtain rfl := Option.some.inj h
    obtain ⟨hP9, hD9⟩ := pd_sub ((a0, .inr (7, [.ref a6, g17, g18, .ref a7, .ref a8, g19, g20, g21, .int o10.2.1, .int o10.2.2])) :: bX4 a5 un kn o26.2 (bX6 a6 up kp p_p (bX4 a7 un2 kn2 (n2_n.1, n2_n.2.1, n2_n.2.2.1, n2_n.2.2.2.1, n2_n.2.2.2.2.1, n2_n.2.2.2.2.2.1, (upd n2_n.2.2.2.2.2.2 (k1).toNatClampNeg o41)) ([(a8, .inr (2, [.ref a9, g26, .int o26.1.1, .int o26.1.2.1, .int o26.1.2.2])), (a9, .inl (cB27, 16, .inr (.inr (.inr (.inr kf28)))))])))) [10, 17, 18, 19, 20, 21, 0, 1, 2, 3, 4, 5, 6, 7, 8, 9, 12, 13, 14, 15, 16, 11, 22] hP hD (by decide) rfl
    have hK9 := hK.sub (tys' := []) [] rfl
    rw [hQQ]
    exact W.zret (v := (1 : Int32)) hx hb hr rfl (fun t ht hW => ⟨⟨(1 : Int32), (), rfl, ⟨rfl, (by decide)⟩, by rw [ht]; exact hP9, va_K.moved hW.alike hK9, hD9⟩, hS.F ht⟩) hS.2.2 (zat zrX10_let_0_ok 26 rfl)
  · have h := (if_neg c13).symm.trans h
    refine lv_iconst (v := 0) hx hb (zat zrX10_let_0_ok 9 rfl) (by decide) ?_
    obtain rfl := Option.some.inj h
    obtain ⟨hP9, hD9⟩ := pd_sub ((a0, .inr (7, [.ref a6, g17, g18, .ref a7, .ref a8, g19, g20, g21, .int o10.2.1, .int o10.2.2])) :: bX4 a5 un kn n_n (bX6 a6 up kp p_p (bX4 a7 un2 kn2 n2_n ([(a8, .inr (2, [.ref a9, g26, .int h_h.1, .int h_h.2.1, .int h_h.2.2])), (a9, .inl (cB27, 16, .inr (.inr (.inr (.inr kf28)))))])))) [22, 0, 1, 2, 3, 4, 7, 8, 9, 10, 11, 12, 13, 14, 15, 16, 17, 18, 19, 20, 21, 5, 6] hP hD (by decide) rfl
    have hK9 := hK.sub (tys' := []) [] rfl
    rw [hQQ]
    exact W.zret (v := (0 : Int32)) hx hb hr rfl (fun t ht hW => ⟨⟨(0 : Int32), (), rfl, ⟨rfl, (by decide)⟩, by rw [ht]; exact hP9, va_K.moved hW.alike hK9, hD9⟩, hS.F ht⟩) hS.2.2 (zat zrX10_let_0_ok 10 rfl)
noncomputable def zrX10_drawIn_0 : List ZR := zc 0 true (.aload_n 0) 1 (zc 1 true (.iload_n 1) 1 (zc 2 true (.invokevirtual 143) 3 (zc 5 true (.istore_n 2) 1 (zc 6 true (.aload_n 0) 1 (zc 7 true (.iload_n 2) 1 (zc 8 true (.ifCond .ne 20) 3 (zc 11 true (.aload_n 0) 1 (zc 12 true (.getfield 29) 3 (zc 15 true (.getfield 146) 3 (zc 18 true (.iload_n 1) 1 (zc 19 true (.iaload) 1 (zc 20 true (.iconst (-1)) 1 (zc 21 true (.if_icmp .ne 7) 3 (zc 24 true (.iconst 5) 1 (zc 25 true (.goto 4) 3 (zc 28 true (.iload_n 2) 1 (zc 29 true (.invokevirtual 79) 3 (zc 32 true (.ifCond .eq 5) 3 (zc 35 true (.iconst 0) 1 (zc 36 true (.ireturn) 1 (zc 37 true (.aload_n 0) 1 (zc 38 true (.getfield 36) 3 (zc 41 true (.aload_n 0) 1 (zc 42 true (.getfield 29) 3 (zc 45 true (.invokevirtual 340) 3 (zc 48 true (.aload_n 0) 1 (zc 49 true (.getfield 29) 3 (zc 52 true (.getfield 146) 3 (zc 55 true (.iload_n 1) 1 (zc 56 true (.iconst (-1)) 1 (zc 57 true (.iastore) 1 (zc 58 true (.iconst 1) 1 (zc 59 true (.ireturn) 1 ([]))))))))))))))))))))))))))))))))))
theorem zrX10_drawIn_0_ok : zck 0 ((zby cX10_drawIn).drop 0) zrX10_drawIn_0 = true := by decide +kernel
def vfX10_drawIn : List Cond := List.cons (.code yX10_drawIn cX10_drawIn 3 (some .boolean)) (apW [.methodLink RX10 143 yX10_askerTrouble, .instanceMethod yX10_askerTrouble, .selects RX10 yX10_askerTrouble yX10_askerTrouble, .initialized RX10, .methodLink RX10 79 yX10_refused, .instanceMethod yX10_refused, .selects RX10 yX10_refused yX10_refused, .fieldLink RX10 36 "HookPier" "history" "LHookPier$History;", .fieldLink RX10 29 "HookPier" "now" "LHookPier$Now;", .methodLink RX10 340 yX2_keep, .instanceMethod yX2_keep, .selects RX2 yX2_keep yX2_keep, .initialized RX2, .fieldLink RX10 146 "HookPier$Now" "line" "[I"] (apW wsX100 (apW wsX40 (apW vfX10_askerTrouble (apW vfX10_refused (vfX2_keep))))))
theorem ifX10_drawIn_X10 : ∀ w ∈ wsX100, w ∈ vfX10_drawIn := fun _ h => (List.mem_cons_of_mem _ (List.mem_append_right _ (List.mem_append_left _ h)))
theorem ifX10_drawIn_X4 : ∀ w ∈ wsX40, w ∈ vfX10_drawIn := fun _ h => (List.mem_cons_of_mem _ (List.mem_append_right _ (List.mem_append_right _ (List.mem_append_left _ h))))
theorem qfX10_drawIn : Good vfX10_drawIn := gd_cons (by decide +kernel) (gd_app (gd_dec (by decide +kernel) : Good [.methodLink RX10 143 yX10_askerTrouble, .instanceMethod yX10_askerTrouble, .selects RX10 yX10_askerTrouble yX10_askerTrouble, .initialized RX10, .methodLink RX10 79 yX10_refused, .instanceMethod yX10_refused, .selects RX10 yX10_refused yX10_refused, .fieldLink RX10 36 "HookPier" "history" "LHookPier$History;", .fieldLink RX10 29 "HookPier" "now" "LHookPier$Now;", .methodLink RX10 340 yX2_keep, .instanceMethod yX2_keep, .selects RX2 yX2_keep yX2_keep, .initialized RX2, .fieldLink RX10 146 "HookPier$Now" "line" "[I"]) (gd_app qsX10 (gd_app qsX4 (gd_app qfX10_askerTrouble (gd_app qfX10_refused qfX2_keep)))))
theorem gfX10_drawIn_0 : GoodIn vfX10_drawIn (wsV RX10 143 RX10 yX10_askerTrouble vfX10_askerTrouble) := goodIn_app (goodIn_r [.methodLink RX10 143 yX10_askerTrouble, .instanceMethod yX10_askerTrouble, .selects RX10 yX10_askerTrouble yX10_askerTrouble, .initialized RX10] [1, 2, 3, 4] rfl (by decide +kernel)) (goodIn_m (fun _ h => (List.mem_cons_of_mem _ (List.mem_append_right _ (List.mem_append_right _ (List.mem_append_right _ (List.mem_append_left _ h)))))) qfX10_askerTrouble)
theorem gfX10_drawIn_1 : GoodIn vfX10_drawIn (wsV RX10 79 RX10 yX10_refused vfX10_refused) := goodIn_app (goodIn_r [.methodLink RX10 79 yX10_refused, .instanceMethod yX10_refused, .selects RX10 yX10_refused yX10_refused, .initialized RX10] [5, 6, 7, 4] rfl (by decide +kernel)) (goodIn_m (fun _ h => (List.mem_cons_of_mem _ (List.mem_append_right _ (List.mem_append_right _ (List.mem_append_right _ (List.mem_append_right _ (List.mem_append_left _ h))))))) qfX10_refused)
theorem gfX10_drawIn_2 : GoodIn vfX10_drawIn (wsV RX10 340 RX2 yX2_keep vfX2_keep) := goodIn_app (goodIn_r [.methodLink RX10 340 yX2_keep, .instanceMethod yX2_keep, .selects RX2 yX2_keep yX2_keep, .initialized RX2] [10, 11, 12, 13] rfl (by decide +kernel)) (goodIn_m (fun _ h => (List.mem_cons_of_mem _ (List.mem_append_right _ (List.mem_append_right _ (List.mem_append_right _ (List.mem_append_right _ (List.mem_append_right _ h))))))) qfX2_keep)
set_option maxHeartbeats 2000000 in
set_option maxRecDepth 100000 in
theorem kfX10_drawIn (l : Launch) (dC : Nat → ClassId) (dI : Nat → Nat → Nat) (a0 : Nat) (k1 : Int32) (a2 : Nat) (a3 : Nat) (a4 : Nat) (a5 : Nat) (a6 : Nat) (un : Nat → Nat) (kn : Nat → ClassId) (up : Nat → Nat) (kp : Nat → ClassId) (un2 : Nat → Nat) (kn2 : Nat → ClassId) (x_x : TX10_x) (g14 : Value) (g15 : Value) (g16 : Value) (g17 : Value) (g18 : Value) (n_n : TX4_n) (p_p : TX6_p) (n2_n : TX4_n) (h_h : TX2_h) (g23 : Value) (cB24 : ClassId) (kf25 : Nat → Option Nat) (sz : Nat) (hk : kf25 (((h_h.1 + h_h.2.1) - (h_h.1 + h_h.2.1) / (16 : Int32) * (16 : Int32))).toNatClampNeg = some a2) (out : (Int32 × TX10_x × TX4_n × TX4_n × TX2_h)) (h : f_X10_drawIn k1 x_x n_n p_p n2_n h_h = some out) : KCi l yX10_drawIn vfX10_drawIn ({ frames := 4, cells := 0, slots := 0, locals := 103 }) (dC, dI) [.ref a0, .int k1] sz ((a0, .inr (7, [.ref a3, g14, g15, .ref a4, .ref a5, g16, g17, g18, .int x_x.1, .int x_x.2])) :: bX4 a2 un kn n_n (bX6 a3 up kp p_p (bX4 a4 un2 kn2 n2_n ([(a5, .inr (2, [.ref a6, g23, .int h_h.1, .int h_h.2.1, .int h_h.2.2])), (a6, .inl (cB24, 16, .inr (.inr (.inr (.inr kf25)))))])))) (tX4 kn (tX6 kp (tX4 kn2 ((cB24, .object RX4) :: [])))) (fun (r : Int32) _ => r = out.1 ∧ (0 ≤ r.toInt ∧ r.toInt ≤ 1)) ((a0, .inr (7, [.ref a3, g14, g15, .ref a4, .ref a5, g16, g17, g18, .int out.2.1.1, .int out.2.1.2])) :: bX4 a2 un kn out.2.2.1 (bX6 a3 up kp p_p (bX4 a4 un2 kn2 out.2.2.2.1 ([(a5, .inr (2, [.ref a6, g23, .int out.2.2.2.2.1, .int out.2.2.2.2.2.1, .int out.2.2.2.2.2.2])), (a6, .inl (cB24, 16, .inr (.inr (.inr (.inr kf25)))))])))) 0 0 := by
  refine Met.ofW (cc := cX10_drawIn) (maxL := 3) (ret := (some .boolean)) (by decide) rfl ?_
  intro p e s m args below meth c s₁ B0 hml hv
  obtain ⟨rfl, hsz, hP, hK, hD0, hN⟩ := hv
  have hx := B0.exec
  have hb := B0.bytes
  have hr := B0.returns
  have hts := atoms_spec (ws := vfX10_drawIn) B0.pre
  have hown : s.vm.findClass RX10 = some m.cls := findClass_of_methodNamed B0.named
  have hlocks := B0.notSynchronized
  subst hsz
  have hD := hD0.self (sz := s.heap.size)
  generalize hAe : va_A ((a0, .inr (7, [.ref a3, g14, g15, .ref a4, .ref a5, g16, g17, g18, .int x_x.1, .int x_x.2])) :: bX4 a2 un kn n_n (bX6 a3 up kp p_p (bX4 a4 un2 kn2 n2_n ([(a5, .inr (2, [.ref a6, g23, .int h_h.1, .int h_h.2.1, .int h_h.2.2])), (a6, .inl (cB24, 16, .inr (.inr (.inr (.inr kf25)))))])))) s.heap.size = A at hD ⊢
  have hA : ∀ q : Nat, s.heap.size ≤ q → A q := fun q h => by rw [← hAe]; exact Or.inr h
  have hS : va_S A s.heap s.heap [] := va_S.rf
  have hP : va_P (dC, dI) vwCl ((a0, .inr (7, [.ref a3, g14, g15, .ref a4, .ref a5, g16, g17, g18, .int x_x.1, .int x_x.2])) :: bX4 a2 un kn n_n (bX6 a3 up kp p_p (bX4 a4 un2 kn2 n2_n ([(a5, .inr (2, [.ref a6, g23, .int h_h.1, .int h_h.2.1, .int h_h.2.2])), (a6, .inl (cB24, 16, .inr (.inr (.inr (.inr kf25)))))])))) s.heap := hP
  have hl := lv_entry ([.ref a0, .int k1]) (n := 3) (Nat.le_of_ble_eq_true rfl)
  rw [lg_entry_eq]
  generalize (lg_sl ([.ref a0, .int k1]) ++ List.replicate (3 - (lg_sl ([.ref a0, .int k1])).length) Slot.unset).toArray = ls at hl ⊢
  have hl : lv_has ls 3 [(0, .ref a0), (1, .int k1)] := hl
  refine W_q (fun QQ hQQ => ?_)
  rw [f_X10_drawIn] at h
  refine lv_aload_n hx hb (zat zrX10_drawIn_0_ok 0 rfl) rfl (lv_at hl 0 rfl) ?_
  refine lv_iload_n hx hb (zat zrX10_drawIn_0_ok 1 rfl) rfl (lv_at hl 1 rfl) ?_
  obtain ⟨o2, eo2⟩ : ∃ o, o = f_X10_askerTrouble k1 p_p := ⟨_, rfl⟩
  have h := nm_of h o2 eo2
  refine ck_i (wc := ((a0, .inr (7, [.ref a3, g14, g15, .ref a4, .ref a5, g16, g17, g18, .int x_x.1, .int x_x.2])) :: bX6 a3 up kp p_p [])) (wr := (bX4 a2 un kn n_n (bX4 a4 un2 kn2 n2_n ([(a5, .inr (2, [.ref a6, g23, .int h_h.1, .int h_h.2.1, .int h_h.2.2])), (a6, .inl (cB24, 16, .inr (.inr (.inr (.inr kf25)))))])))) hP hD hK hS hA [0, 6, 7, 8, 9, 10, 11, 12, 13, 14, 15] [1, 2, 3, 4, 5, 16, 17, 18, 19, 20, 21, 22] rfl rfl (by decide) (by decide) (by decide) (fun hPc hDc => (va_runV (As := [.int k1]) (rest := []) ⟨hx, hb, hml, hown, hts⟩ (kfX10_askerTrouble l dC dI a0 k1 a3 up kp (g14) (g15) (.ref a4) (.ref a5) (g16) (g17) (g18) (.int x_x.1) (.int x_x.2) p_p s.heap.size o2 eo2.symm) (cwV 1 hts gfX10_drawIn_0 rfl rfl rfl (by decide +kernel) ⟨(Nat.le_of_ble_eq_true rfl), (Nat.le_of_ble_eq_true rfl)⟩) (PV hPc (hK.sub (tys' := (tX6 kp ([]))) [4, 5, 6, 7, 8, 9, 10, 11, 12] rfl) hDc hN 0 rfl rfl) rfl rfl hl.1 rfl (lv_room (Nat.le_of_ble_eq_true rfl)) (zat zrX10_drawIn_0_ok 2 rfl) ⟨(Nat.le_of_ble_eq_true rfl), (Nat.le_of_ble_eq_true rfl)⟩)) (fun r2 _ H locs hw hP hD _ hS => ?_)
  obtain rfl := hw.symm
  obtain ⟨hP, hD⟩ := pd_mk (bX4 a2 un kn n_n (bX4 a4 un2 kn2 n2_n ((a5, .inr (2, [.ref a6, g23, .int h_h.1, .int h_h.2.1, .int h_h.2.2])) :: (a6, .inl (cB24, 16, .inr (.inr (.inr (.inr kf25))))) :: (a0, .inr (7, [.ref a3, g14, g15, .ref a4, .ref a5, g16, g17, g18, .int x_x.1, .int x_x.2])) :: bX6 a3 up kp p_p []))) hP hD
  refine lv_istore_n (lv' := [(2, .int o2), (0, .ref a0), (1, .int k1)]) hx hb (zat zrX10_drawIn_0_ok 3 rfl) rfl hl (by decide) rfl (fun ls hl => ?_)
  refine lv_aload_n hx hb (zat zrX10_drawIn_0_ok 4 rfl) rfl (lv_at hl 1 rfl) ?_
  refine lv_iload_n hx hb (zat zrX10_drawIn_0_ok 5 rfl) rfl (lv_at hl 0 rfl) ?_
  have J29 : ∀ (v29_t1 : Int32) (H : Heap) (locs : List Loc) (ls : Array Slot), f_X10_drawIn_J29 k1 x_x n_n n2_n h_h v29_t1 = some out → va_P (dC, dI) vwCl (bX4 a2 un kn n_n (bX4 a4 un2 kn2 n2_n ((a5, .inr (2, [.ref a6, g23, .int h_h.1, .int h_h.2.1, .int h_h.2.2])) :: (a6, .inl (cB24, 16, .inr (.inr (.inr (.inr kf25))))) :: (a0, .inr (7, [.ref a3, g14, g15, .ref a4, .ref a5, g16, g17, g18, .int x_x.1, .int x_x.2])) :: bX6 a3 up kp p_p []))) H → va_D A (bX4 a2 un kn n_n (bX4 a4 un2 kn2 n2_n ((a5, .inr (2, [.ref a6, g23, .int h_h.1, .int h_h.2.1, .int h_h.2.2])) :: (a6, .inl (cB24, 16, .inr (.inr (.inr (.inr kf25))))) :: (a0, .inr (7, [.ref a3, g14, g15, .ref a4, .ref a5, g16, g17, g18, .int x_x.1, .int x_x.2])) :: bX6 a3 up kp p_p []))) → va_S A s.heap H locs → lv_has ls 3 [(0, .ref a0), (1, .int k1)] → W p l e (headSpec vfX10_drawIn { frames := 4, cells := 0, slots := 0, locals := 103 }).room s m ([.ref a0, .int k1]).toArray below meth c H locs 0 0 QQ (F0 m 29 ls [.int v29_t1, .ref a0]) := by
    intro v29_t1 H locs ls h  hP hD hS hl
    rw [f_X10_drawIn_J29] at h
    obtain ⟨o29, eo29⟩ : ∃ o, o = f_X10_refused v29_t1 x_x := ⟨_, rfl⟩
    have h := nm_of h o29 eo29
    refine ck_i (wc := ([(a0, .inr (7, [.ref a3, g14, g15, .ref a4, .ref a5, g16, g17, g18, .int x_x.1, .int x_x.2]))])) (wr := (bX4 a2 un kn n_n (bX4 a4 un2 kn2 n2_n ((a5, .inr (2, [.ref a6, g23, .int h_h.1, .int h_h.2.1, .int h_h.2.2])) :: (a6, .inl (cB24, 16, .inr (.inr (.inr (.inr kf25))))) :: bX6 a3 up kp p_p [])))) hP hD hK hS hA [12] [0, 1, 2, 3, 4, 5, 6, 7, 8, 9, 10, 11, 13, 14, 15, 16, 17, 18, 19, 20, 21, 22] rfl rfl (by decide) (by decide) (by decide) (fun hPc hDc => (va_runV (As := [.int v29_t1]) (rest := []) ⟨hx, hb, hml, hown, hts⟩ (kfX10_refused l dC dI a0 v29_t1 x_x (.ref a3) (g14) (g15) (.ref a4) (.ref a5) (g16) (g17) (g18) H.size o29 eo29.symm) (cwV 1 hts gfX10_drawIn_1 rfl rfl rfl (by decide +kernel) ⟨(Nat.le_of_ble_eq_true rfl), (Nat.le_of_ble_eq_true rfl)⟩) (PV hPc (hK.sub (tys' := ([])) [] rfl) hDc hN 0 rfl rfl) rfl rfl hl.1 rfl (lv_room (Nat.le_of_ble_eq_true rfl)) (zat zrX10_drawIn_0_ok 17 rfl) ⟨(Nat.le_of_ble_eq_true rfl), (Nat.le_of_ble_eq_true rfl)⟩)) (fun r29 _ H locs hw hP hD _ hS => ?_)
    obtain ⟨hw, br29⟩ := hw
    obtain rfl := hw
    obtain ⟨hP, hD⟩ := pd_mk (bX4 a2 un kn n_n (bX4 a4 un2 kn2 n2_n ((a5, .inr (2, [.ref a6, g23, .int h_h.1, .int h_h.2.1, .int h_h.2.2])) :: (a6, .inl (cB24, 16, .inr (.inr (.inr (.inr kf25))))) :: bX6 a3 up kp p_p ([(a0, .inr (7, [.ref a3, g14, g15, .ref a4, .ref a5, g16, g17, g18, .int o29.2.1, .int o29.2.2]))])))) hP hD
    refine lv_if_eq (tgt := 37) hx hb (zat zrX10_drawIn_0_ok 18 rfl) (by decide) (fun c32 => ?_) (fun c32 => ?_)
    · have h := (if_pos c32).symm.trans h
      refine lv_aload_n hx hb (zat zrX10_drawIn_0_ok 21 rfl) rfl (lv_at hl 0 rfl) ?_
      refine va_get (D := (dC, dI)) (ci := 7) (v := .ref a5) (C := RX10) (T := TX10) (N := 10) hx hb hts ifX10_drawIn_X10 hown hK hP 22 rfl rfl 4 (by decide) (hts (.fieldLink RX10 36 "HookPier" "history" "LHookPier$History;") (List.mem_of_getElem? (i := 8) rfl)) (fun _ h9 => h9) rfl (zat zrX10_drawIn_0_ok 22 rfl) ?_
      refine lv_aload_n hx hb (zat zrX10_drawIn_0_ok 23 rfl) rfl (lv_at hl 0 rfl) ?_
      refine va_get (D := (dC, dI)) (ci := 7) (v := .ref a4) (C := RX10) (T := TX10) (N := 10) hx hb hts ifX10_drawIn_X10 hown hK hP 22 rfl rfl 3 (by decide) (hts (.fieldLink RX10 29 "HookPier" "now" "LHookPier$Now;") (List.mem_of_getElem? (i := 9) rfl)) (fun _ h9 => h9) rfl (zat zrX10_drawIn_0_ok 24 rfl) ?_
      obtain ⟨o45, eo45, h⟩ := bd_of h
      refine ck_v (wc := ((a5, .inr (2, [.ref a6, g23, .int h_h.1, .int h_h.2.1, .int h_h.2.2])) :: bX4 a4 un2 kn2 n2_n (bX4 a2 un kn n_n ([(a6, .inl (cB24, 16, .inr (.inr (.inr (.inr kf25)))))])))) (wr := (bX6 a3 up kp p_p ([(a0, .inr (7, [.ref a3, g14, g15, .ref a4, .ref a5, g16, g17, g18, .int o29.2.1, .int o29.2.2]))]))) hP hD hK hS hA [10, 5, 6, 7, 8, 9, 0, 1, 2, 3, 4, 11] [12, 13, 14, 15, 16, 17, 18, 19, 20, 21, 22] rfl rfl (by decide) (by decide) (by decide) (fun hPc hDc => (va_runV (As := [.ref a4]) (rest := []) ⟨hx, hb, hml, hown, hts⟩ (kfX2_keep l dC dI a5 a4 a2 a6 un2 kn2 un kn h_h (g23) n2_n n_n cB24 kf25 H.size hk o45 eo45) (cwV 1 hts gfX10_drawIn_2 rfl rfl rfl (by decide +kernel) ⟨(Nat.le_of_ble_eq_true rfl), (Nat.le_of_ble_eq_true rfl)⟩) (PV hPc (hK.sub (tys' := (tX4 kn2 (tX4 kn ((cB24, .object RX4) :: [])))) [13, 14, 15, 16, 0, 1, 2, 3, 17] rfl) hDc hN 0 rfl rfl) rfl rfl hl.1 rfl (lv_room (Nat.le_of_ble_eq_true rfl)) (zat zrX10_drawIn_0_ok 25 rfl) ⟨(Nat.le_of_ble_eq_true rfl), (Nat.le_of_ble_eq_true rfl)⟩)) (fun _ H locs hw hP hD _ hS => ?_)
      obtain ⟨hP, hD⟩ := pd_mk (bX6 a3 up kp p_p ((a0, .inr (7, [.ref a3, g14, g15, .ref a4, .ref a5, g16, g17, g18, .int o29.2.1, .int o29.2.2])) :: (a5, .inr (2, [.ref a6, g23, .int o45.1.1, .int o45.1.2.1, .int o45.1.2.2])) :: bX4 a4 un2 kn2 n2_n (bX4 a2 un kn o45.2 ([(a6, .inl (cB24, 16, .inr (.inr (.inr (.inr kf25)))))])))) hP hD
      refine lv_aload_n hx hb (zat zrX10_drawIn_0_ok 26 rfl) rfl (lv_at hl 0 rfl) ?_
      refine va_get (D := (dC, dI)) (ci := 7) (v := .ref a4) (C := RX10) (T := TX10) (N := 10) hx hb hts ifX10_drawIn_X10 hown hK hP 10 rfl rfl 3 (by decide) (hts (.fieldLink RX10 29 "HookPier" "now" "LHookPier$Now;") (List.mem_of_getElem? (i := 9) rfl)) (fun _ h9 => h9) rfl (zat zrX10_drawIn_0_ok 27 rfl) ?_
      refine va_get (D := (dC, dI)) (ci := 3) (v := .ref (un2 3)) (C := RX4) (T := TX4) (N := 7) hx hb hts ifX10_drawIn_X4 hown hK hP 12 rfl rfl 6 (by decide) (hts (.fieldLink RX10 146 "HookPier$Now" "line" "[I") (List.mem_of_getElem? (i := 14) rfl)) (fun _ h9 => h9) rfl (zat zrX10_drawIn_0_ok 28 rfl) ?_
      refine lv_iload_n hx hb (zat zrX10_drawIn_0_ok 29 rfl) rfl (lv_at hl 1 rfl) ?_
      refine lv_iconst (v := (-1)) hx hb (zat zrX10_drawIn_0_ok 30 rfl) (by decide) ?_
      obtain ⟨hg57, h⟩ := gA_of h
      refine va_iast hx hb hK hP hD hS 16 16 rfl rfl hg57 (zat zrX10_drawIn_0_ok 31 rfl) (fun H locs hP hD hS => ?_)
      obtain ⟨hP, hD⟩ := pd_mk (bX6 a3 up kp p_p ((a0, .inr (7, [.ref a3, g14, g15, .ref a4, .ref a5, g16, g17, g18, .int o29.2.1, .int o29.2.2])) :: (a5, .inr (2, [.ref a6, g23, .int o45.1.1, .int o45.1.2.1, .int o45.1.2.2])) :: bX4 a4 un2 kn2 (n2_n.1, n2_n.2.1, n2_n.2.2.1, n2_n.2.2.2.1, n2_n.2.2.2.2.1, n2_n.2.2.2.2.2.1, (upd n2_n.2.2.2.2.2.2 (k1).toNatClampNeg (-1 : Int32))) (bX4 a2 un kn o45.2 ([(a6, .inl (cB24, 16, .inr (.inr (.inr (.inr kf25)))))])))) hP hD
      refine lv_iconst (v := 1) hx hb (zat zrX10_drawIn_0_ok 32 rfl) (by decide) ?_
      obtain rfl := Option.some.inj h
      obtain ⟨hP9, hD9⟩ := pd_sub ((a0, .inr (7, [.ref a3, g14, g15, .ref a4, .ref a5, g16, g17, g18, .int o29.2.1, .int o29.2.2])) :: bX4 a2 un kn o45.2 (bX6 a3 up kp p_p (bX4 a4 un2 kn2 (n2_n.1, n2_n.2.1, n2_n.2.2.1, n2_n.2.2.2.1, n2_n.2.2.2.2.1, n2_n.2.2.2.2.2.1, (upd n2_n.2.2.2.2.2.2 (k1).toNatClampNeg (-1 : Int32))) ([(a5, .inr (2, [.ref a6, g23, .int o45.1.1, .int o45.1.2.1, .int o45.1.2.2])), (a6, .inl (cB24, 16, .inr (.inr (.inr (.inr kf25)))))])))) [10, 17, 18, 19, 20, 21, 0, 1, 2, 3, 4, 5, 6, 7, 8, 9, 12, 13, 14, 15, 16, 11, 22] hP hD (by decide) rfl
      have hK9 := hK.sub (tys' := []) [] rfl
      rw [hQQ]
      exact W.zret (v := (1 : Int32)) hx hb hr rfl (fun t ht hW => ⟨⟨(1 : Int32), (), rfl, ⟨rfl, (by decide)⟩, by rw [ht]; exact hP9, va_K.moved hW.alike hK9, hD9⟩, hS.F ht⟩) hS.2.2 (zat zrX10_drawIn_0_ok 33 rfl)
    · have h := (if_neg c32).symm.trans h
      refine lv_iconst (v := 0) hx hb (zat zrX10_drawIn_0_ok 19 rfl) (by decide) ?_
      obtain rfl := Option.some.inj h
      obtain ⟨hP9, hD9⟩ := pd_sub ((a0, .inr (7, [.ref a3, g14, g15, .ref a4, .ref a5, g16, g17, g18, .int o29.2.1, .int o29.2.2])) :: bX4 a2 un kn n_n (bX6 a3 up kp p_p (bX4 a4 un2 kn2 n2_n ([(a5, .inr (2, [.ref a6, g23, .int h_h.1, .int h_h.2.1, .int h_h.2.2])), (a6, .inl (cB24, 16, .inr (.inr (.inr (.inr kf25)))))])))) [22, 0, 1, 2, 3, 4, 12, 13, 14, 15, 16, 17, 18, 19, 20, 21, 5, 6, 7, 8, 9, 10, 11] hP hD (by decide) rfl
      have hK9 := hK.sub (tys' := []) [] rfl
      rw [hQQ]
      exact W.zret (v := (0 : Int32)) hx hb hr rfl (fun t ht hW => ⟨⟨(0 : Int32), (), rfl, ⟨rfl, (by decide)⟩, by rw [ht]; exact hP9, va_K.moved hW.alike hK9, hD9⟩, hS.F ht⟩) hS.2.2 (zat zrX10_drawIn_0_ok 20 rfl)
  have J28 : ∀ (H : Heap) (locs : List Loc) (ls : Array Slot), f_X10_drawIn_J28 k1 x_x n_n n2_n h_h o2 = some out → va_P (dC, dI) vwCl (bX4 a2 un kn n_n (bX4 a4 un2 kn2 n2_n ((a5, .inr (2, [.ref a6, g23, .int h_h.1, .int h_h.2.1, .int h_h.2.2])) :: (a6, .inl (cB24, 16, .inr (.inr (.inr (.inr kf25))))) :: (a0, .inr (7, [.ref a3, g14, g15, .ref a4, .ref a5, g16, g17, g18, .int x_x.1, .int x_x.2])) :: bX6 a3 up kp p_p []))) H → va_D A (bX4 a2 un kn n_n (bX4 a4 un2 kn2 n2_n ((a5, .inr (2, [.ref a6, g23, .int h_h.1, .int h_h.2.1, .int h_h.2.2])) :: (a6, .inl (cB24, 16, .inr (.inr (.inr (.inr kf25))))) :: (a0, .inr (7, [.ref a3, g14, g15, .ref a4, .ref a5, g16, g17, g18, .int x_x.1, .int x_x.2])) :: bX6 a3 up kp p_p []))) → va_S A s.heap H locs → lv_has ls 3 [(2, .int o2), (0, .ref a0), (1, .int k1)] → W p l e (headSpec vfX10_drawIn { frames := 4, cells := 0, slots := 0, locals := 103 }).room s m ([.ref a0, .int k1]).toArray below meth c H locs 0 0 QQ (F0 m 28 ls [.ref a0]) := by
    intro  H locs ls h  hP hD hS hl
    rw [f_X10_drawIn_J28] at h
    refine lv_iload_n hx hb (zat zrX10_drawIn_0_ok 16 rfl) rfl (lv_at hl 0 rfl) ?_
    exact J29 o2 H _ ls h  hP hD hS (lv_sub hl [1, 2] rfl)
  refine lv_if_ne (tgt := 28) hx hb (zat zrX10_drawIn_0_ok 6 rfl) (by decide) (fun c8 => ?_) (fun c8 => ?_)
  · have h := (if_neg c8).symm.trans h
    exact J28  H _ ls h  hP hD hS (lv_sub hl [0, 1, 2] rfl)
  · have h := (if_pos c8).symm.trans h
    refine lv_aload_n hx hb (zat zrX10_drawIn_0_ok 7 rfl) rfl (lv_at hl 1 rfl) ?_
    refine va_get (D := (dC, dI)) (ci := 7) (v := .ref a4) (C := RX10) (T := TX10) (N := 10) hx hb hts ifX10_drawIn_X10 hown hK hP 12 rfl rfl 3 (by decide) (hts (.fieldLink RX10 29 "HookPier" "now" "LHookPier$Now;") (List.mem_of_getElem? (i := 9) rfl)) (fun _ h9 => h9) rfl (zat zrX10_drawIn_0_ok 8 rfl) ?_
    refine va_get (D := (dC, dI)) (ci := 3) (v := .ref (un2 3)) (C := RX4) (T := TX4) (N := 7) hx hb hts ifX10_drawIn_X4 hown hK hP 5 rfl rfl 6 (by decide) (hts (.fieldLink RX10 146 "HookPier$Now" "line" "[I") (List.mem_of_getElem? (i := 14) rfl)) (fun _ h9 => h9) rfl (zat zrX10_drawIn_0_ok 9 rfl) ?_
    refine lv_iload_n hx hb (zat zrX10_drawIn_0_ok 10 rfl) rfl (lv_at hl 2 rfl) ?_
    obtain ⟨hg19, h⟩ := gA_of h
    refine va_iald hx hb hK hP 9 16 rfl rfl hg19 (zat zrX10_drawIn_0_ok 11 rfl) ?_
    refine lv_iconst (v := (-1)) hx hb (zat zrX10_drawIn_0_ok 12 rfl) (by decide) ?_
    refine lv_icmp_ne (tgt := 28) hx hb (zat zrX10_drawIn_0_ok 13 rfl) (by decide) (fun c21 => ?_) (fun c21 => ?_)
    · have h := (if_neg c21).symm.trans h
      exact J28  H _ ls h  hP hD hS (lv_sub hl [0, 1, 2] rfl)
    · have h := (if_pos c21).symm.trans h
      refine lv_iconst (v := 5) hx hb (zat zrX10_drawIn_0_ok 14 rfl) (by decide) ?_
      refine lv_goto (tgt := 29) hx hb (zat zrX10_drawIn_0_ok 15 rfl) (by decide) ?_
      exact J29 (5 : Int32) H _ ls h  hP hD hS (lv_sub hl [1, 2] rfl)
