noncomputable def zrX7_readBite_0 : List ZR := zc 0 true (.aload_n 0) 1 (zc 1 true (.iconst 0) 1 (zc 2 true (.aload_n 1) 1 (zc 3 true (.getfield 82) 3 (zc 6 true (.iconst 1) 1 (zc 7 true (.isub) 1 (zc 8 true (.invokevirtual 133) 3 (zc 11 true (.ifCond .ne 5) 3 (zc 14 true (.iconst 0) 1 (zc 15 true (.ireturn) 1 (zc 16 true (.aload_n 0) 1 (zc 17 true (.getfield 31) 3 (zc 20 true (.istore_n 2) 1 (zc 21 true (.aload_n 0) 1 (zc 22 true (.ldc 189) 2 (zc 24 true (.invokevirtual 130) 3 (zc 27 true (.ifCond .eq 15) 3 (zc 30 true (.aload_n 0) 1 (zc 31 true (.iconst 1) 1 (zc 32 true (.aload_n 1) 1 (zc 33 true (.getfield 139) 3 (zc 36 true (.invokevirtual 133) 3 (zc 39 true (.ifCond .ne 5) 3 (zc 42 true (.iconst 0) 1 (zc 43 true (.ireturn) 1 (zc 44 true (.aload_n 0) 1 (zc 45 true (.getfield 31) 3 (zc 48 true (.istore_n 3) 1 (zc 49 true (.aload_n 0) 1 (zc 50 true (.ldc 88) 2 (zc 52 true (.invokevirtual 130) 3 (zc 55 true (.ifCond .eq 10) 3 (zc 58 true (.aload_n 0) 1 (zc 59 true (.invokevirtual 179) 3 (zc 62 true (.ifCond .ne 5) 3 (zc 65 true (.iconst 0) 1 (zc 66 true (.ireturn) 1 (zc 67 true (.aload_n 1) 1 (zc 68 true (.getfield 191) 3 (zc 71 true (.aload_n 1) 1 (zc 72 true (.getfield 123) 3 (zc 75 true (.iload_n 2) 1 (zc 76 true (.iload_n 3) 1 (zc 77 true (.aload_n 0) 1 (zc 78 true (.getfield 31) 3 (zc 81 true (.invokestatic 193) 3 (zc 84 true (.iastore) 1 (zc 85 true (.aload_n 0) 1 (zc 86 true (.invokevirtual 197) 3 (zc 89 true (.ifCond .ne 5) 3 (zc 92 true (.iconst 0) 1 (zc 93 true (.ireturn) 1 (zc 94 true (.aload_n 1) 1 (zc 95 true (.getfield 200) 3 (zc 98 true (.aload_n 1) 1 (zc 99 true (.getfield 123) 3 (zc 102 true (.aload_n 0) 1 (zc 103 true (.getfield 31) 3 (zc 106 true (.iconst 1) 1 (zc 107 true (.if_icmp .ne 7) 3 (zc 110 true (.iconst 1) 1 (zc 111 true (.goto 4) 3 (zc 114 true (.iconst 0) 1 (zc 115 true (.bastore) 1 ([]))))))))))))))))))))))))))))))))))))))))))))))))))))))))))))))))
theorem zrX7_readBite_0_ok : zck 0 ((zby cX7_readBite).drop 0) zrX7_readBite_0 = true := by decide +kernel
noncomputable def zrX7_readBite_1 : List ZR := zc 116 true (.aload_n 1) 1 (zc 117 true (.dup) 1 (zc 118 true (.getfield 123) 3 (zc 121 true (.iconst 1) 1 (zc 122 true (.iadd) 1 (zc 123 true (.putfield 123) 3 (zc 126 true (.iconst 1) 1 (zc 127 true (.ireturn) 1 ([]))))))))
theorem zrX7_readBite_1_ok : zck 116 ((zby cX7_readBite).drop 116) zrX7_readBite_1 = true := by decide +kernel
def vfX7_readBite : List Cond := List.cons (.code yX7_readBite cX7_readBite 4 (some .boolean)) (apW [.fieldLink RX7 82 "HookPier$Plan" "spots" "I", .methodLink RX7 133 yX7_takeWhole, .instanceMethod yX7_takeWhole, .selects RX7 yX7_takeWhole yX7_takeWhole, .initialized RX7, .fieldLink RX7 31 "HookPier$Reader" "value" "I", .methodLink RX7 130 yX7_takeWord, .instanceMethod yX7_takeWord, .selects RX7 yX7_takeWord yX7_takeWord, .fieldLink RX7 139 "HookPier$Plan" "deep" "I", .methodLink RX7 179 yX7_takeBait, .instanceMethod yX7_takeBait, .selects RX7 yX7_takeBait yX7_takeBait, .fieldLink RX7 191 "HookPier$Plan" "bite" "[I", .fieldLink RX7 123 "HookPier$Plan" "bites" "I", .initialized RX10, .static yX10_question, .methodLink RX7 197 yX7_takeYes, .instanceMethod yX7_takeYes, .selects RX7 yX7_takeYes yX7_takeYes, .fieldLink RX7 200 "HookPier$Plan" "bit" "[Z"] (apW wsX60 (apW wsX70 (apW vfX7_takeWhole (apW vfX7_takeWord (apW vfX7_takeBait (apW vfX10_question (vfX7_takeYes))))))))
theorem ifX7_readBite_X6 : ∀ w ∈ wsX60, w ∈ vfX7_readBite := fun _ h => (List.mem_cons_of_mem _ (List.mem_append_right _ (List.mem_append_left _ h)))
theorem ifX7_readBite_X7 : ∀ w ∈ wsX70, w ∈ vfX7_readBite := fun _ h => (List.mem_cons_of_mem _ (List.mem_append_right _ (List.mem_append_right _ (List.mem_append_left _ h))))
theorem qfX7_readBite : Good vfX7_readBite := gd_cons (by decide +kernel) (gd_app (gd_dec (by decide +kernel) : Good [.fieldLink RX7 82 "HookPier$Plan" "spots" "I", .methodLink RX7 133 yX7_takeWhole, .instanceMethod yX7_takeWhole, .selects RX7 yX7_takeWhole yX7_takeWhole, .initialized RX7, .fieldLink RX7 31 "HookPier$Reader" "value" "I", .methodLink RX7 130 yX7_takeWord, .instanceMethod yX7_takeWord, .selects RX7 yX7_takeWord yX7_takeWord, .fieldLink RX7 139 "HookPier$Plan" "deep" "I", .methodLink RX7 179 yX7_takeBait, .instanceMethod yX7_takeBait, .selects RX7 yX7_takeBait yX7_takeBait, .fieldLink RX7 191 "HookPier$Plan" "bite" "[I", .fieldLink RX7 123 "HookPier$Plan" "bites" "I", .initialized RX10, .static yX10_question, .methodLink RX7 197 yX7_takeYes, .instanceMethod yX7_takeYes, .selects RX7 yX7_takeYes yX7_takeYes, .fieldLink RX7 200 "HookPier$Plan" "bit" "[Z"]) (gd_app qsX6 (gd_app qsX7 (gd_app qfX7_takeWhole (gd_app qfX7_takeWord (gd_app qfX7_takeBait (gd_app qfX10_question qfX7_takeYes)))))))
theorem gfX7_readBite_0 : GoodIn vfX7_readBite (wsV RX7 133 RX7 yX7_takeWhole vfX7_takeWhole) := goodIn_app (goodIn_r [.methodLink RX7 133 yX7_takeWhole, .instanceMethod yX7_takeWhole, .selects RX7 yX7_takeWhole yX7_takeWhole, .initialized RX7] [2, 3, 4, 5] rfl (by decide +kernel)) (goodIn_m (fun _ h => (List.mem_cons_of_mem _ (List.mem_append_right _ (List.mem_append_right _ (List.mem_append_right _ (List.mem_append_left _ h)))))) qfX7_takeWhole)
theorem gfX7_readBite_1 : GoodIn vfX7_readBite (wsV RX7 130 RX7 yX7_takeWord vfX7_takeWord) := goodIn_app (goodIn_r [.methodLink RX7 130 yX7_takeWord, .instanceMethod yX7_takeWord, .selects RX7 yX7_takeWord yX7_takeWord, .initialized RX7] [7, 8, 9, 5] rfl (by decide +kernel)) (goodIn_m (fun _ h => (List.mem_cons_of_mem _ (List.mem_append_right _ (List.mem_append_right _ (List.mem_append_right _ (List.mem_append_right _ (List.mem_append_left _ h))))))) qfX7_takeWord)
theorem gfX7_readBite_2 : GoodIn vfX7_readBite (wsV RX7 179 RX7 yX7_takeBait vfX7_takeBait) := goodIn_app (goodIn_r [.methodLink RX7 179 yX7_takeBait, .instanceMethod yX7_takeBait, .selects RX7 yX7_takeBait yX7_takeBait, .initialized RX7] [11, 12, 13, 5] rfl (by decide +kernel)) (goodIn_m (fun _ h => (List.mem_cons_of_mem _ (List.mem_append_right _ (List.mem_append_right _ (List.mem_append_right _ (List.mem_append_right _ (List.mem_append_right _ (List.mem_append_left _ h)))))))) qfX7_takeBait)
theorem gfX7_readBite_3 : GoodIn vfX7_readBite vfX10_question := (goodIn_m (fun _ h => (List.mem_cons_of_mem _ (List.mem_append_right _ (List.mem_append_right _ (List.mem_append_right _ (List.mem_append_right _ (List.mem_append_right _ (List.mem_append_right _ (List.mem_append_left _ h))))))))) qfX10_question)
theorem gfX7_readBite_4 : GoodIn vfX7_readBite (wsV RX7 197 RX7 yX7_takeYes vfX7_takeYes) := goodIn_app (goodIn_r [.methodLink RX7 197 yX7_takeYes, .instanceMethod yX7_takeYes, .selects RX7 yX7_takeYes yX7_takeYes, .initialized RX7] [18, 19, 20, 5] rfl (by decide +kernel)) (goodIn_m (fun _ h => (List.mem_cons_of_mem _ (List.mem_append_right _ (List.mem_append_right _ (List.mem_append_right _ (List.mem_append_right _ (List.mem_append_right _ (List.mem_append_right _ (List.mem_append_right _ h))))))))) qfX7_takeYes)
set_option maxHeartbeats 2000000 in
set_option maxRecDepth 100000 in
theorem kfX7_readBite (l : Launch) (dC : Nat → ClassId) (dI : Nat → Nat → Nat) (a0 : Nat) (a1 : Nat) (ur : Nat → Nat) (kr : Nat → ClassId) (up : Nat → Nat) (kp : Nat → ClassId) (r_r : TX7_r) (p_p : TX6_p) (sz : Nat) (B : Nat) (out : (Int32 × TX7_r × TX6_p)) (h : f_X7_readBite r_r p_p = some out) : Met l yX7_readBite vfX7_readBite ({ frames := 7, cells := 0, slots := 0, locals := 148 }) (PF (dC, dI) B [.ref a0, .ref a1] sz (bX7 a0 ur kr r_r (bX6 a1 up kp p_p [])) (tX7 kr (tX6 kp ([]))) []) (va_Qi (S := Unit) (fun (r : Int32) _ => r = out.1 ∧ (0 ≤ r.toInt ∧ r.toInt ≤ 1)) (fun _ t => BC (dC, dI) (va_A (bX7 a0 ur kr r_r (bX6 a1 up kp p_p [])) sz) (bX7 a0 ur kr out.2.1 (bX6 a1 up kp out.2.2 [])) [] t) (va_A (bX7 a0 ur kr r_r (bX6 a1 up kp p_p [])) sz)) 0 0 (va_A (bX7 a0 ur kr r_r (bX6 a1 up kp p_p [])) sz) := by
  refine Met.ofW (cc := cX7_readBite) (maxL := 4) (ret := (some .boolean)) (by decide) rfl ?_
  intro p e s m args below meth c s₁ B0 hml hv
  obtain ⟨rfl, hsz, hP, hK, hD0, hN, hBs, hE, hX⟩ := hv
  have hBA := PF_reg hD0 hBs
  have hx := B0.exec
  have hb := B0.bytes
  have hr := B0.returns
  have hts := atoms_spec (ws := vfX7_readBite) B0.pre
  have hown : s.vm.findClass RX7 = some m.cls := findClass_of_methodNamed B0.named
  have hlocks := B0.notSynchronized
  subst hsz
  have hD := hD0.self (sz := s.heap.size)
  generalize hAe : va_A (bX7 a0 ur kr r_r (bX6 a1 up kp p_p [])) s.heap.size = A at hD hBA ⊢
  have hA : ∀ q : Nat, s.heap.size ≤ q → A q := fun q h => by rw [← hAe]; exact Or.inr h
  have hS : va_S A s.heap s.heap [] := va_S.rf
  have hP : va_P (dC, dI) vwCl (bX7 a0 ur kr r_r (bX6 a1 up kp p_p [])) s.heap := hP
  have hl := lv_entry ([.ref a0, .ref a1]) (n := 4) (Nat.le_of_ble_eq_true rfl)
  rw [lg_entry_eq]
  generalize (lg_sl ([.ref a0, .ref a1]) ++ List.replicate (4 - (lg_sl ([.ref a0, .ref a1])).length) Slot.unset).toArray = ls at hl ⊢
  have hl : lv_has ls 4 [(0, .ref a0), (1, .ref a1)] := hl
  have hB : RB B s A := ⟨hBA, hBs⟩
  refine W_q (fun QQ hQQ => ?_)
  rw [f_X7_readBite] at h
  refine lv_aload_n hx hb (zat zrX7_readBite_0_ok 0 rfl) rfl (lv_at hl 0 rfl) ?_
  refine lv_iconst (v := 0) hx hb (zat zrX7_readBite_0_ok 1 rfl) (by decide) ?_
  refine lv_aload_n hx hb (zat zrX7_readBite_0_ok 2 rfl) rfl (lv_at hl 1 rfl) ?_
  refine va_get (D := (dC, dI)) (ci := 4) (v := .int p_p.1) (C := RX6) (T := TX6) (N := 18) hx hb hts ifX7_readBite_X6 hown hK hP 4 rfl rfl 0 (by decide) (hts (.fieldLink RX7 82 "HookPier$Plan" "spots" "I") (List.mem_of_getElem? (i := 1) rfl)) (fun _ h9 => h9) rfl (zat zrX7_readBite_0_ok 3 rfl) ?_
  refine lv_iconst (v := 1) hx hb (zat zrX7_readBite_0_ok 4 rfl) (by decide) ?_
  refine lv_isub hx hb (zat zrX7_readBite_0_ok 5 rfl) ?_
  obtain ⟨o8, eo8, h⟩ := bd_of h
  refine ck_i (wc := (bX7 a0 ur kr r_r [])) (wr := (bX6 a1 up kp p_p [])) hP hD hK hS hA [0, 1, 2, 3] [4, 5, 6, 7, 8, 9, 10, 11, 12, 13] rfl rfl (by decide) (by decide) (by decide) (fun hPc hDc => (va_runV (As := [.int 0, .int (p_p.1 - (1 : Int32))]) (rest := []) ⟨hx, hb, hml, hown, hts⟩ (kfX7_takeWhole l dC dI a0 (0 : Int32) (p_p.1 - (1 : Int32)) ur kr r_r s.heap.size o8 eo8) (cwV 2 hts gfX7_readBite_0 rfl rfl rfl (by decide +kernel) ⟨(Nat.le_of_ble_eq_true rfl), (Nat.le_of_ble_eq_true rfl)⟩) (PV hPc (hK.sub (tys' := (tX7 kr ([]))) [0, 1, 2] rfl) hDc hN 0 rfl rfl) rfl rfl hl.1 rfl (lv_room (Nat.le_of_ble_eq_true rfl)) (zat zrX7_readBite_0_ok 6 rfl) ⟨(Nat.le_of_ble_eq_true rfl), (Nat.le_of_ble_eq_true rfl)⟩)) (fun r8 _ H locs hw hP hD _ hS => ?_)
  obtain ⟨hw, br8⟩ := hw
  obtain rfl := hw
  obtain ⟨hP, hD⟩ := pd_mk (bX6 a1 up kp p_p (bX7 a0 ur kr o8.2 [])) hP hD
  refine lv_if_ne (tgt := 16) hx hb (zat zrX7_readBite_0_ok 7 rfl) (by decide) (fun c11 => ?_) (fun c11 => ?_)
  · have h := (if_neg c11).symm.trans h
    refine lv_aload_n hx hb (zat zrX7_readBite_0_ok 10 rfl) rfl (lv_at hl 0 rfl) ?_
    refine va_get (D := (dC, dI)) (ci := 5) (v := .int o8.2.2.2.2.2.2.2.1) (C := RX7) (T := TX7) (N := 12) hx hb hts ifX7_readBite_X7 hown hK hP 10 rfl rfl 6 (by decide) (hts (.fieldLink RX7 31 "HookPier$Reader" "value" "I") (List.mem_of_getElem? (i := 6) rfl)) (fun _ h9 => h9) rfl (zat zrX7_readBite_0_ok 11 rfl) ?_
    refine lv_istore_n (lv' := [(2, .int o8.2.2.2.2.2.2.2.1), (0, .ref a0), (1, .ref a1)]) hx hb (zat zrX7_readBite_0_ok 12 rfl) rfl hl (by decide) rfl (fun ls hl => ?_)
    refine lv_aload_n hx hb (zat zrX7_readBite_0_ok 13 rfl) rfl (lv_at hl 1 rfl) ?_
    obtain ⟨s22, hs22, xs22⟩ := hE.1 (RX7, 189, "fathoms", tx_fathoms) (List.mem_of_getElem? (i := 20) rfl)
    refine va_ldcS hx hb hown hs22 (zat zrX7_readBite_0_ok 14 rfl) ?_
    obtain ⟨o24, eo24, h⟩ := bd_of h
    refine ck_i (wc := (bX7 a0 ur kr o8.2 [])) (wr := (bX6 a1 up kp p_p [])) hP hD hK hS hA [10, 11, 12, 13] [0, 1, 2, 3, 4, 5, 6, 7, 8, 9] rfl rfl (by decide) (by decide) (by decide) (fun hPc hDc => (va_runV (As := [.ref s22]) (rest := []) ⟨hx, hb, hml, hown, hts⟩ (kfX7_takeWord l dC dI a0 s22 tx_fathoms ur kr o8.2 H.size B o24 eo24) (cwV 1 hts gfX7_readBite_1 rfl rfl rfl (by decide +kernel) ⟨(Nat.le_of_ble_eq_true rfl), (Nat.le_of_ble_eq_true rfl)⟩) (PVF hPc (hK.sub (tys' := (tX7 kr ([]))) [0, 1, 2] rfl) hDc hN hS hB hE (S1c xs22 S1n) 0 rfl rfl) rfl rfl hl.1 rfl (lv_room (Nat.le_of_ble_eq_true rfl)) (zat zrX7_readBite_0_ok 15 rfl) ⟨(Nat.le_of_ble_eq_true rfl), (Nat.le_of_ble_eq_true rfl)⟩)) (fun r24 _ H locs hw hP hD _ hS => ?_)
    obtain ⟨hw, br24⟩ := hw
    obtain rfl := hw
    obtain ⟨hP, hD⟩ := pd_mk (bX6 a1 up kp p_p (bX7 a0 ur kr o24.2 [])) hP hD
    refine lv_if_eq (tgt := 42) hx hb (zat zrX7_readBite_0_ok 16 rfl) (by decide) (fun c27 => ?_) (fun c27 => ?_)
    · have h := (if_pos c27).symm.trans h
      refine lv_iconst (v := 0) hx hb (zat zrX7_readBite_0_ok 23 rfl) (by decide) ?_
      obtain rfl := Option.some.inj h
      obtain ⟨hP9, hD9⟩ := pd_sub (bX7 a0 ur kr o24.2 (bX6 a1 up kp p_p [])) [10, 11, 12, 13, 0, 1, 2, 3, 4, 5, 6, 7, 8, 9] hP hD (by decide) rfl
      have hK9 := hK.sub (tys' := []) [] rfl
      rw [hQQ]
      exact W.zret (v := (0 : Int32)) hx hb hr rfl (fun t ht hW => ⟨⟨(0 : Int32), (), rfl, ⟨rfl, (by decide)⟩, by rw [ht]; exact hP9, va_K.moved hW.alike hK9, hD9⟩, hS.F ht⟩) hS.2.2 (zat zrX7_readBite_0_ok 24 rfl)
    · have h := (if_neg c27).symm.trans h
      refine lv_aload_n hx hb (zat zrX7_readBite_0_ok 17 rfl) rfl (lv_at hl 1 rfl) ?_
      refine lv_iconst (v := 1) hx hb (zat zrX7_readBite_0_ok 18 rfl) (by decide) ?_
      refine lv_aload_n hx hb (zat zrX7_readBite_0_ok 19 rfl) rfl (lv_at hl 2 rfl) ?_
      refine va_get (D := (dC, dI)) (ci := 4) (v := .int p_p.2.1) (C := RX6) (T := TX6) (N := 18) hx hb hts ifX7_readBite_X6 hown hK hP 0 rfl rfl 1 (by decide) (hts (.fieldLink RX7 139 "HookPier$Plan" "deep" "I") (List.mem_of_getElem? (i := 10) rfl)) (fun _ h9 => h9) rfl (zat zrX7_readBite_0_ok 20 rfl) ?_
      obtain ⟨o36, eo36, h⟩ := bd_of h
      refine ck_i (wc := (bX7 a0 ur kr o24.2 [])) (wr := (bX6 a1 up kp p_p [])) hP hD hK hS hA [10, 11, 12, 13] [0, 1, 2, 3, 4, 5, 6, 7, 8, 9] rfl rfl (by decide) (by decide) (by decide) (fun hPc hDc => (va_runV (As := [.int 1, .int p_p.2.1]) (rest := []) ⟨hx, hb, hml, hown, hts⟩ (kfX7_takeWhole l dC dI a0 (1 : Int32) p_p.2.1 ur kr o24.2 H.size o36 eo36) (cwV 2 hts gfX7_readBite_0 rfl rfl rfl (by decide +kernel) ⟨(Nat.le_of_ble_eq_true rfl), (Nat.le_of_ble_eq_true rfl)⟩) (PV hPc (hK.sub (tys' := (tX7 kr ([]))) [0, 1, 2] rfl) hDc hN 0 rfl rfl) rfl rfl hl.1 rfl (lv_room (Nat.le_of_ble_eq_true rfl)) (zat zrX7_readBite_0_ok 21 rfl) ⟨(Nat.le_of_ble_eq_true rfl), (Nat.le_of_ble_eq_true rfl)⟩)) (fun r36 _ H locs hw hP hD _ hS => ?_)
      obtain ⟨hw, br36⟩ := hw
      obtain rfl := hw
      obtain ⟨hP, hD⟩ := pd_mk (bX6 a1 up kp p_p (bX7 a0 ur kr o36.2 [])) hP hD
      refine lv_if_ne (tgt := 44) hx hb (zat zrX7_readBite_0_ok 22 rfl) (by decide) (fun c39 => ?_) (fun c39 => ?_)
      · have h := (if_neg c39).symm.trans h
        refine lv_aload_n hx hb (zat zrX7_readBite_0_ok 25 rfl) rfl (lv_at hl 1 rfl) ?_
        refine va_get (D := (dC, dI)) (ci := 5) (v := .int o36.2.2.2.2.2.2.2.1) (C := RX7) (T := TX7) (N := 12) hx hb hts ifX7_readBite_X7 hown hK hP 10 rfl rfl 6 (by decide) (hts (.fieldLink RX7 31 "HookPier$Reader" "value" "I") (List.mem_of_getElem? (i := 6) rfl)) (fun _ h9 => h9) rfl (zat zrX7_readBite_0_ok 26 rfl) ?_
        refine lv_istore_n (lv' := [(3, .int o36.2.2.2.2.2.2.2.1), (2, .int o8.2.2.2.2.2.2.2.1), (0, .ref a0), (1, .ref a1)]) hx hb (zat zrX7_readBite_0_ok 27 rfl) rfl hl (by decide) rfl (fun ls hl => ?_)
        refine lv_aload_n hx hb (zat zrX7_readBite_0_ok 28 rfl) rfl (lv_at hl 2 rfl) ?_
        obtain ⟨s50, hs50, xs50⟩ := hE.1 (RX7, 88, "bait", tx_bait) (List.mem_of_getElem? (i := 5) rfl)
        refine va_ldcS hx hb hown hs50 (zat zrX7_readBite_0_ok 29 rfl) ?_
        obtain ⟨o52, eo52, h⟩ := bd_of h
        refine ck_i (wc := (bX7 a0 ur kr o36.2 [])) (wr := (bX6 a1 up kp p_p [])) hP hD hK hS hA [10, 11, 12, 13] [0, 1, 2, 3, 4, 5, 6, 7, 8, 9] rfl rfl (by decide) (by decide) (by decide) (fun hPc hDc => (va_runV (As := [.ref s50]) (rest := []) ⟨hx, hb, hml, hown, hts⟩ (kfX7_takeWord l dC dI a0 s50 tx_bait ur kr o36.2 H.size B o52 eo52) (cwV 1 hts gfX7_readBite_1 rfl rfl rfl (by decide +kernel) ⟨(Nat.le_of_ble_eq_true rfl), (Nat.le_of_ble_eq_true rfl)⟩) (PVF hPc (hK.sub (tys' := (tX7 kr ([]))) [0, 1, 2] rfl) hDc hN hS hB hE (S1c xs50 S1n) 0 rfl rfl) rfl rfl hl.1 rfl (lv_room (Nat.le_of_ble_eq_true rfl)) (zat zrX7_readBite_0_ok 30 rfl) ⟨(Nat.le_of_ble_eq_true rfl), (Nat.le_of_ble_eq_true rfl)⟩)) (fun r52 _ H locs hw hP hD _ hS => ?_)
        obtain ⟨hw, br52⟩ := hw
        obtain rfl := hw
        obtain ⟨hP, hD⟩ := pd_mk (bX6 a1 up kp p_p (bX7 a0 ur kr o52.2 [])) hP hD
        refine lv_if_eq (tgt := 65) hx hb (zat zrX7_readBite_0_ok 31 rfl) (by decide) (fun c55 => ?_) (fun c55 => ?_)
        · have h := (if_pos c55).symm.trans h
          refine lv_iconst (v := 0) hx hb (zat zrX7_readBite_0_ok 35 rfl) (by decide) ?_
          obtain rfl := Option.some.inj h
          obtain ⟨hP9, hD9⟩ := pd_sub (bX7 a0 ur kr o52.2 (bX6 a1 up kp p_p [])) [10, 11, 12, 13, 0, 1, 2, 3, 4, 5, 6, 7, 8, 9] hP hD (by decide) rfl
          have hK9 := hK.sub (tys' := []) [] rfl
          rw [hQQ]
          exact W.zret (v := (0 : Int32)) hx hb hr rfl (fun t ht hW => ⟨⟨(0 : Int32), (), rfl, ⟨rfl, (by decide)⟩, by rw [ht]; exact hP9, va_K.moved hW.alike hK9, hD9⟩, hS.F ht⟩) hS.2.2 (zat zrX7_readBite_0_ok 36 rfl)
        · have h := (if_neg c55).symm.trans h
          refine lv_aload_n hx hb (zat zrX7_readBite_0_ok 32 rfl) rfl (lv_at hl 2 rfl) ?_
          obtain ⟨o59, eo59, h⟩ := bd_of h
          refine ck_i (wc := (bX7 a0 ur kr o52.2 [])) (wr := (bX6 a1 up kp p_p [])) hP hD hK hS hA [10, 11, 12, 13] [0, 1, 2, 3, 4, 5, 6, 7, 8, 9] rfl rfl (by decide) (by decide) (by decide) (fun hPc hDc => (va_runV (As := []) (rest := []) ⟨hx, hb, hml, hown, hts⟩ (kfX7_takeBait l dC dI a0 ur kr o52.2 H.size B o59 eo59) (cwV 0 hts gfX7_readBite_2 rfl rfl rfl (by decide +kernel) ⟨(Nat.le_of_ble_eq_true rfl), (Nat.le_of_ble_eq_true rfl)⟩) (PVF hPc (hK.sub (tys' := (tX7 kr ([]))) [0, 1, 2] rfl) hDc hN hS hB hE S1n 0 rfl rfl) rfl rfl hl.1 rfl (lv_room (Nat.le_of_ble_eq_true rfl)) (zat zrX7_readBite_0_ok 33 rfl) ⟨(Nat.le_of_ble_eq_true rfl), (Nat.le_of_ble_eq_true rfl)⟩)) (fun r59 _ H locs hw hP hD _ hS => ?_)
          obtain ⟨hw, br59⟩ := hw
          obtain rfl := hw
          obtain ⟨hP, hD⟩ := pd_mk (bX6 a1 up kp p_p (bX7 a0 ur kr o59.2 [])) hP hD
          refine lv_if_ne (tgt := 67) hx hb (zat zrX7_readBite_0_ok 34 rfl) (by decide) (fun c62 => ?_) (fun c62 => ?_)
          · have h := (if_neg c62).symm.trans h
            refine lv_aload_n hx hb (zat zrX7_readBite_0_ok 37 rfl) rfl (lv_at hl 3 rfl) ?_
            refine va_get (D := (dC, dI)) (ci := 4) (v := .ref (up 7)) (C := RX6) (T := TX6) (N := 18) hx hb hts ifX7_readBite_X6 hown hK hP 0 rfl rfl 16 (by decide) (hts (.fieldLink RX7 191 "HookPier$Plan" "bite" "[I") (List.mem_of_getElem? (i := 14) rfl)) (fun _ h9 => h9) rfl (zat zrX7_readBite_0_ok 38 rfl) ?_
            refine lv_aload_n hx hb (zat zrX7_readBite_0_ok 39 rfl) rfl (lv_at hl 3 rfl) ?_
            refine va_get (D := (dC, dI)) (ci := 4) (v := .int p_p.2.2.2.2.2.2.2.1) (C := RX6) (T := TX6) (N := 18) hx hb hts ifX7_readBite_X6 hown hK hP 0 rfl rfl 7 (by decide) (hts (.fieldLink RX7 123 "HookPier$Plan" "bites" "I") (List.mem_of_getElem? (i := 15) rfl)) (fun _ h9 => h9) rfl (zat zrX7_readBite_0_ok 40 rfl) ?_
            refine lv_iload_n hx hb (zat zrX7_readBite_0_ok 41 rfl) rfl (lv_at hl 1 rfl) ?_
            refine lv_iload_n hx hb (zat zrX7_readBite_0_ok 42 rfl) rfl (lv_at hl 0 rfl) ?_
            refine lv_aload_n hx hb (zat zrX7_readBite_0_ok 43 rfl) rfl (lv_at hl 2 rfl) ?_
            refine va_get (D := (dC, dI)) (ci := 5) (v := .int o59.2.2.2.2.2.2.2.1) (C := RX7) (T := TX7) (N := 12) hx hb hts ifX7_readBite_X7 hown hK hP 10 rfl rfl 6 (by decide) (hts (.fieldLink RX7 31 "HookPier$Reader" "value" "I") (List.mem_of_getElem? (i := 6) rfl)) (fun _ h9 => h9) rfl (zat zrX7_readBite_0_ok 44 rfl) ?_
            obtain ⟨o81, eo81⟩ : ∃ o, o = f_X10_question o8.2.2.2.2.2.2.2.1 o36.2.2.2.2.2.2.2.1 o59.2.2.2.2.2.2.2.1 := ⟨_, rfl⟩
            have h := nm_of h o81 eo81
            refine ck_i (wc := []) (wr := (bX6 a1 up kp p_p (bX7 a0 ur kr o59.2 []))) hP hD hK hS hA [] [0, 1, 2, 3, 4, 5, 6, 7, 8, 9, 10, 11, 12, 13] rfl rfl (by decide) (by decide) (by decide) (fun hPc hDc => (va_runSN (As := [.int o8.2.2.2.2.2.2.2.1, .int o36.2.2.2.2.2.2.2.1, .int o59.2.2.2.2.2.2.2.1]) (rest := [.int p_p.2.2.2.2.2.2.2.1, .ref (up 7)]) ⟨hx, hb, hml, hown, hts⟩ (kfX10_question l dC dI o8.2.2.2.2.2.2.2.1 o36.2.2.2.2.2.2.2.1 o59.2.2.2.2.2.2.2.1 H.size o81 eo81.symm) ⟨va_cnB 3 hts gfX7_readBite_3 rfl rfl rfl (hN.1 (.methodLinkNest RX7 193 yX10_question "HookPier") (List.mem_of_getElem? (i := 9) rfl)) (hts (.initialized RX10) (List.mem_of_getElem? (i := 16) rfl)) (by decide +kernel) ⟨(Nat.le_of_ble_eq_true rfl), (Nat.le_of_ble_eq_true rfl)⟩, (hts (.static yX10_question) (List.mem_of_getElem? (i := 17) rfl)), trivial⟩ (PS hPc (hK.sub (tys' := ([])) [] rfl) hDc hN) rfl rfl hl.1 rfl (lv_room (Nat.le_of_ble_eq_true rfl)) (zat zrX7_readBite_0_ok 45 rfl) ⟨(Nat.le_of_ble_eq_true rfl), (Nat.le_of_ble_eq_true rfl)⟩)) (fun r81 _ H locs hw hP hD _ hS => ?_)
            obtain rfl := hw.symm
            obtain ⟨hP, hD⟩ := pd_mk (bX6 a1 up kp p_p (bX7 a0 ur kr o59.2 [])) hP hD
            obtain ⟨hg84, h⟩ := gA_of h
            refine va_iast hx hb hK hP hD hS 8 10 rfl rfl hg84 (zat zrX7_readBite_0_ok 46 rfl) (fun H locs hP hD hS => ?_)
            obtain ⟨hP, hD⟩ := pd_mk (bX6 a1 up kp (p_p.1, p_p.2.1, p_p.2.2.1, p_p.2.2.2.1, p_p.2.2.2.2.1, p_p.2.2.2.2.2.1, p_p.2.2.2.2.2.2.1, p_p.2.2.2.2.2.2.2.1, p_p.2.2.2.2.2.2.2.2.1, p_p.2.2.2.2.2.2.2.2.2.1, p_p.2.2.2.2.2.2.2.2.2.2.1, p_p.2.2.2.2.2.2.2.2.2.2.2.1, p_p.2.2.2.2.2.2.2.2.2.2.2.2.1, p_p.2.2.2.2.2.2.2.2.2.2.2.2.2.1, p_p.2.2.2.2.2.2.2.2.2.2.2.2.2.2.1, p_p.2.2.2.2.2.2.2.2.2.2.2.2.2.2.2.1, (upd p_p.2.2.2.2.2.2.2.2.2.2.2.2.2.2.2.2.1 (p_p.2.2.2.2.2.2.2.1).toNatClampNeg o81), p_p.2.2.2.2.2.2.2.2.2.2.2.2.2.2.2.2.2) (bX7 a0 ur kr o59.2 [])) hP hD
            refine lv_aload_n hx hb (zat zrX7_readBite_0_ok 47 rfl) rfl (lv_at hl 2 rfl) ?_
            obtain ⟨o86, eo86, h⟩ := bd_of h
            refine ck_i (wc := (bX7 a0 ur kr o59.2 [])) (wr := (bX6 a1 up kp (p_p.1, p_p.2.1, p_p.2.2.1, p_p.2.2.2.1, p_p.2.2.2.2.1, p_p.2.2.2.2.2.1, p_p.2.2.2.2.2.2.1, p_p.2.2.2.2.2.2.2.1, p_p.2.2.2.2.2.2.2.2.1, p_p.2.2.2.2.2.2.2.2.2.1, p_p.2.2.2.2.2.2.2.2.2.2.1, p_p.2.2.2.2.2.2.2.2.2.2.2.1, p_p.2.2.2.2.2.2.2.2.2.2.2.2.1, p_p.2.2.2.2.2.2.2.2.2.2.2.2.2.1, p_p.2.2.2.2.2.2.2.2.2.2.2.2.2.2.1, p_p.2.2.2.2.2.2.2.2.2.2.2.2.2.2.2.1, (upd p_p.2.2.2.2.2.2.2.2.2.2.2.2.2.2.2.2.1 (p_p.2.2.2.2.2.2.2.1).toNatClampNeg o81), p_p.2.2.2.2.2.2.2.2.2.2.2.2.2.2.2.2.2) [])) hP hD hK hS hA [10, 11, 12, 13] [0, 1, 2, 3, 4, 5, 6, 7, 8, 9] rfl rfl (by decide) (by decide) (by decide) (fun hPc hDc => (va_runV (As := []) (rest := []) ⟨hx, hb, hml, hown, hts⟩ (kfX7_takeYes l dC dI a0 ur kr o59.2 H.size B o86 eo86) (cwV 0 hts gfX7_readBite_4 rfl rfl rfl (by decide +kernel) ⟨(Nat.le_of_ble_eq_true rfl), (Nat.le_of_ble_eq_true rfl)⟩) (PVF hPc (hK.sub (tys' := (tX7 kr ([]))) [0, 1, 2] rfl) hDc hN hS hB hE S1n 0 rfl rfl) rfl rfl hl.1 rfl (lv_room (Nat.le_of_ble_eq_true rfl)) (zat zrX7_readBite_0_ok 48 rfl) ⟨(Nat.le_of_ble_eq_true rfl), (Nat.le_of_ble_eq_true rfl)⟩)) (fun r86 _ H locs hw hP hD _ hS => ?_)
            obtain ⟨hw, br86⟩ := hw
            obtain rfl := hw
            obtain ⟨hP, hD⟩ := pd_mk (bX6 a1 up kp (p_p.1, p_p.2.1, p_p.2.2.1, p_p.2.2.2.1, p_p.2.2.2.2.1, p_p.2.2.2.2.2.1, p_p.2.2.2.2.2.2.1, p_p.2.2.2.2.2.2.2.1, p_p.2.2.2.2.2.2.2.2.1, p_p.2.2.2.2.2.2.2.2.2.1, p_p.2.2.2.2.2.2.2.2.2.2.1, p_p.2.2.2.2.2.2.2.2.2.2.2.1, p_p.2.2.2.2.2.2.2.2.2.2.2.2.1, p_p.2.2.2.2.2.2.2.2.2.2.2.2.2.1, p_p.2.2.2.2.2.2.2.2.2.2.2.2.2.2.1, p_p.2.2.2.2.2.2.2.2.2.2.2.2.2.2.2.1, (upd p_p.2.2.2.2.2.2.2.2.2.2.2.2.2.2.2.2.1 (p_p.2.2.2.2.2.2.2.1).toNatClampNeg o81), p_p.2.2.2.2.2.2.2.2.2.2.2.2.2.2.2.2.2) (bX7 a0 ur kr o86.2 [])) hP hD
            refine lv_if_ne (tgt := 94) hx hb (zat zrX7_readBite_0_ok 49 rfl) (by decide) (fun c89 => ?_) (fun c89 => ?_)
            · have h := (if_neg c89).symm.trans h
              refine lv_aload_n hx hb (zat zrX7_readBite_0_ok 52 rfl) rfl (lv_at hl 3 rfl) ?_
              refine va_get (D := (dC, dI)) (ci := 4) (v := .ref (up 8)) (C := RX6) (T := TX6) (N := 18) hx hb hts ifX7_readBite_X6 hown hK hP 0 rfl rfl 17 (by decide) (hts (.fieldLink RX7 200 "HookPier$Plan" "bit" "[Z") (List.mem_of_getElem? (i := 21) rfl)) (fun _ h9 => h9) rfl (zat zrX7_readBite_0_ok 53 rfl) ?_
              refine lv_aload_n hx hb (zat zrX7_readBite_0_ok 54 rfl) rfl (lv_at hl 3 rfl) ?_
              refine va_get (D := (dC, dI)) (ci := 4) (v := .int p_p.2.2.2.2.2.2.2.1) (C := RX6) (T := TX6) (N := 18) hx hb hts ifX7_readBite_X6 hown hK hP 0 rfl rfl 7 (by decide) (hts (.fieldLink RX7 123 "HookPier$Plan" "bites" "I") (List.mem_of_getElem? (i := 15) rfl)) (fun _ h9 => h9) rfl (zat zrX7_readBite_0_ok 55 rfl) ?_
              refine lv_aload_n hx hb (zat zrX7_readBite_0_ok 56 rfl) rfl (lv_at hl 2 rfl) ?_
              refine va_get (D := (dC, dI)) (ci := 5) (v := .int o86.2.2.2.2.2.2.2.1) (C := RX7) (T := TX7) (N := 12) hx hb hts ifX7_readBite_X7 hown hK hP 10 rfl rfl 6 (by decide) (hts (.fieldLink RX7 31 "HookPier$Reader" "value" "I") (List.mem_of_getElem? (i := 6) rfl)) (fun _ h9 => h9) rfl (zat zrX7_readBite_0_ok 57 rfl) ?_
              refine lv_iconst (v := 1) hx hb (zat zrX7_readBite_0_ok 58 rfl) (by decide) ?_
              have J115 : ∀ (v115_t2 : Int32) (H : Heap) (locs : List Loc) (ls : Array Slot), f_X7_readBite_J115 p_p o81 o86 v115_t2 = some out → 0 ≤ v115_t2.toInt ∧ v115_t2.toInt ≤ 1 → va_P (dC, dI) vwCl (bX6 a1 up kp (p_p.1, p_p.2.1, p_p.2.2.1, p_p.2.2.2.1, p_p.2.2.2.2.1, p_p.2.2.2.2.2.1, p_p.2.2.2.2.2.2.1, p_p.2.2.2.2.2.2.2.1, p_p.2.2.2.2.2.2.2.2.1, p_p.2.2.2.2.2.2.2.2.2.1, p_p.2.2.2.2.2.2.2.2.2.2.1, p_p.2.2.2.2.2.2.2.2.2.2.2.1, p_p.2.2.2.2.2.2.2.2.2.2.2.2.1, p_p.2.2.2.2.2.2.2.2.2.2.2.2.2.1, p_p.2.2.2.2.2.2.2.2.2.2.2.2.2.2.1, p_p.2.2.2.2.2.2.2.2.2.2.2.2.2.2.2.1, (upd p_p.2.2.2.2.2.2.2.2.2.2.2.2.2.2.2.2.1 (p_p.2.2.2.2.2.2.2.1).toNatClampNeg o81), p_p.2.2.2.2.2.2.2.2.2.2.2.2.2.2.2.2.2) (bX7 a0 ur kr o86.2 [])) H → va_D A (bX6 a1 up kp (p_p.1, p_p.2.1, p_p.2.2.1, p_p.2.2.2.1, p_p.2.2.2.2.1, p_p.2.2.2.2.2.1, p_p.2.2.2.2.2.2.1, p_p.2.2.2.2.2.2.2.1, p_p.2.2.2.2.2.2.2.2.1, p_p.2.2.2.2.2.2.2.2.2.1, p_p.2.2.2.2.2.2.2.2.2.2.1, p_p.2.2.2.2.2.2.2.2.2.2.2.1, p_p.2.2.2.2.2.2.2.2.2.2.2.2.1, p_p.2.2.2.2.2.2.2.2.2.2.2.2.2.1, p_p.2.2.2.2.2.2.2.2.2.2.2.2.2.2.1, p_p.2.2.2.2.2.2.2.2.2.2.2.2.2.2.2.1, (upd p_p.2.2.2.2.2.2.2.2.2.2.2.2.2.2.2.2.1 (p_p.2.2.2.2.2.2.2.1).toNatClampNeg o81), p_p.2.2.2.2.2.2.2.2.2.2.2.2.2.2.2.2.2) (bX7 a0 ur kr o86.2 [])) → va_S A s.heap H locs → lv_has ls 4 [(1, .ref a1)] → W p l e (headSpec vfX7_readBite { frames := 7, cells := 0, slots := 0, locals := 148 }).room s m ([.ref a0, .ref a1]).toArray below meth c H locs 0 0 QQ (F0 m 115 ls [.int v115_t2, .int p_p.2.2.2.2.2.2.2.1, .ref (up 8)]) := by
                intro v115_t2 H locs ls h zb_v115_t2 hP hD hS hl
                rw [f_X7_readBite_J115] at h
                obtain ⟨hg115, h⟩ := gA_of h
                refine va_zast hx hb hK hP hD hS 9 11 rfl rfl hg115 (zat zrX7_readBite_0_ok 63 rfl) (fun H locs hP hD hS => ?_)
                obtain ⟨hP, hD⟩ := pd_mk (bX6 a1 up kp (p_p.1, p_p.2.1, p_p.2.2.1, p_p.2.2.2.1, p_p.2.2.2.2.1, p_p.2.2.2.2.2.1, p_p.2.2.2.2.2.2.1, p_p.2.2.2.2.2.2.2.1, p_p.2.2.2.2.2.2.2.2.1, p_p.2.2.2.2.2.2.2.2.2.1, p_p.2.2.2.2.2.2.2.2.2.2.1, p_p.2.2.2.2.2.2.2.2.2.2.2.1, p_p.2.2.2.2.2.2.2.2.2.2.2.2.1, p_p.2.2.2.2.2.2.2.2.2.2.2.2.2.1, p_p.2.2.2.2.2.2.2.2.2.2.2.2.2.2.1, p_p.2.2.2.2.2.2.2.2.2.2.2.2.2.2.2.1, (upd p_p.2.2.2.2.2.2.2.2.2.2.2.2.2.2.2.2.1 (p_p.2.2.2.2.2.2.2.1).toNatClampNeg o81), (upd p_p.2.2.2.2.2.2.2.2.2.2.2.2.2.2.2.2.2 (p_p.2.2.2.2.2.2.2.1).toNatClampNeg (vp_nar .boolean v115_t2))) (bX7 a0 ur kr o86.2 [])) hP hD
                refine lv_aload_n hx hb (zat zrX7_readBite_1_ok 0 rfl) rfl (lv_at hl 0 rfl) ?_
                refine lv_dup hx hb (zat zrX7_readBite_1_ok 1 rfl) rfl ?_
                refine va_get (D := (dC, dI)) (ci := 4) (v := .int p_p.2.2.2.2.2.2.2.1) (C := RX6) (T := TX6) (N := 18) hx hb hts ifX7_readBite_X6 hown hK hP 0 rfl rfl 7 (by decide) (hts (.fieldLink RX7 123 "HookPier$Plan" "bites" "I") (List.mem_of_getElem? (i := 15) rfl)) (fun _ h9 => h9) rfl (zat zrX7_readBite_1_ok 2 rfl) ?_
                refine lv_iconst (v := 1) hx hb (zat zrX7_readBite_1_ok 3 rfl) (by decide) ?_
                refine lv_iadd hx hb (zat zrX7_readBite_1_ok 4 rfl) ?_
                refine va_put (D := (dC, dI)) (ci := 4) (v := .int (p_p.2.2.2.2.2.2.2.1 + (1 : Int32))) (ty := .int) (C := RX6) (T := TX6) (N := 18) hx hb hts ifX7_readBite_X6 tyX6 tyX6_ok nmX6 hown hK hP hD hS 0 rfl rfl 7 (by decide) (hts (.fieldLink RX7 123 "HookPier$Plan" "bites" "I") (List.mem_of_getElem? (i := 15) rfl)) (fun _ h9 => h9) rfl (by decide +kernel) rfl rfl (Nat.le_of_ble_eq_true rfl) (zat zrX7_readBite_1_ok 5 rfl) (fun H locs hP hD hS => ?_)
                obtain ⟨hP, hD⟩ := pd_mk (bX6 a1 up kp (p_p.1, p_p.2.1, p_p.2.2.1, p_p.2.2.2.1, p_p.2.2.2.2.1, p_p.2.2.2.2.2.1, p_p.2.2.2.2.2.2.1, (p_p.2.2.2.2.2.2.2.1 + (1 : Int32)), p_p.2.2.2.2.2.2.2.2.1, p_p.2.2.2.2.2.2.2.2.2.1, p_p.2.2.2.2.2.2.2.2.2.2.1, p_p.2.2.2.2.2.2.2.2.2.2.2.1, p_p.2.2.2.2.2.2.2.2.2.2.2.2.1, p_p.2.2.2.2.2.2.2.2.2.2.2.2.2.1, p_p.2.2.2.2.2.2.2.2.2.2.2.2.2.2.1, p_p.2.2.2.2.2.2.2.2.2.2.2.2.2.2.2.1, (upd p_p.2.2.2.2.2.2.2.2.2.2.2.2.2.2.2.2.1 (p_p.2.2.2.2.2.2.2.1).toNatClampNeg o81), (upd p_p.2.2.2.2.2.2.2.2.2.2.2.2.2.2.2.2.2 (p_p.2.2.2.2.2.2.2.1).toNatClampNeg (vp_nar .boolean v115_t2))) (bX7 a0 ur kr o86.2 [])) hP hD
                refine lv_iconst (v := 1) hx hb (zat zrX7_readBite_1_ok 6 rfl) (by decide) ?_
                obtain rfl := Option.some.inj h
                obtain ⟨hP9, hD9⟩ := pd_sub (bX7 a0 ur kr o86.2 (bX6 a1 up kp (p_p.1, p_p.2.1, p_p.2.2.1, p_p.2.2.2.1, p_p.2.2.2.2.1, p_p.2.2.2.2.2.1, p_p.2.2.2.2.2.2.1, (p_p.2.2.2.2.2.2.2.1 + (1 : Int32)), p_p.2.2.2.2.2.2.2.2.1, p_p.2.2.2.2.2.2.2.2.2.1, p_p.2.2.2.2.2.2.2.2.2.2.1, p_p.2.2.2.2.2.2.2.2.2.2.2.1, p_p.2.2.2.2.2.2.2.2.2.2.2.2.1, p_p.2.2.2.2.2.2.2.2.2.2.2.2.2.1, p_p.2.2.2.2.2.2.2.2.2.2.2.2.2.2.1, p_p.2.2.2.2.2.2.2.2.2.2.2.2.2.2.2.1, (upd p_p.2.2.2.2.2.2.2.2.2.2.2.2.2.2.2.2.1 (p_p.2.2.2.2.2.2.2.1).toNatClampNeg o81), (upd p_p.2.2.2.2.2.2.2.2.2.2.2.2.2.2.2.2.2 (p_p.2.2.2.2.2.2.2.1).toNatClampNeg (vp_nar .boolean v115_t2))) [])) [10, 11, 12, 13, 0, 1, 2, 3, 4, 5, 6, 7, 8, 9] hP hD (by decide) rfl
                have hK9 := hK.sub (tys' := []) [] rfl
                rw [hQQ]
                exact W.zret (v := (1 : Int32)) hx hb hr rfl (fun t ht hW => ⟨⟨(1 : Int32), (), rfl, ⟨rfl, (by decide)⟩, by rw [ht]; exact hP9, va_K.moved hW.alike hK9, hD9⟩, hS.F ht⟩) hS.2.2 (zat zrX7_readBite_1_ok 7 rfl)
              refine lv_icmp_ne (tgt := 114) hx hb (zat zrX7_readBite_0_ok 59 rfl) (by decide) (fun c107 => ?_) (fun c107 => ?_)
              · have h := (if_neg c107).symm.trans h
                refine lv_iconst (v := 0) hx hb (zat zrX7_readBite_0_ok 62 rfl) (by decide) ?_
                exact J115 (0 : Int32) H _ ls h (by decide) hP hD hS (lv_sub hl [3] rfl)
              · have h := (if_pos c107).symm.trans h
                refine lv_iconst (v := 1) hx hb (zat zrX7_readBite_0_ok 60 rfl) (by decide) ?_
                refine lv_goto (tgt := 115) hx hb (zat zrX7_readBite_0_ok 61 rfl) (by decide) ?_
                exact J115 (1 : Int32) H _ ls h (by decide) hP hD hS (lv_sub hl [3] rfl)
            · have h := (if_pos c89).symm.trans h
              refine lv_iconst (v := 0) hx hb (zat zrX7_readBite_0_ok 50 rfl) (by decide) ?_
              obtain rfl := Option.some.inj h
              obtain ⟨hP9, hD9⟩ := pd_sub (bX7 a0 ur kr o86.2 (bX6 a1 up kp (p_p.1, p_p.2.1, p_p.2.2.1, p_p.2.2.2.1, p_p.2.2.2.2.1, p_p.2.2.2.2.2.1, p_p.2.2.2.2.2.2.1, p_p.2.2.2.2.2.2.2.1, p_p.2.2.2.2.2.2.2.2.1, p_p.2.2.2.2.2.2.2.2.2.1, p_p.2.2.2.2.2.2.2.2.2.2.1, p_p.2.2.2.2.2.2.2.2.2.2.2.1, p_p.2.2.2.2.2.2.2.2.2.2.2.2.1, p_p.2.2.2.2.2.2.2.2.2.2.2.2.2.1, p_p.2.2.2.2.2.2.2.2.2.2.2.2.2.2.1, p_p.2.2.2.2.2.2.2.2.2.2.2.2.2.2.2.1, (upd p_p.2.2.2.2.2.2.2.2.2.2.2.2.2.2.2.2.1 (p_p.2.2.2.2.2.2.2.1).toNatClampNeg o81), p_p.2.2.2.2.2.2.2.2.2.2.2.2.2.2.2.2.2) [])) [10, 11, 12, 13, 0, 1, 2, 3, 4, 5, 6, 7, 8, 9] hP hD (by decide) rfl
              have hK9 := hK.sub (tys' := []) [] rfl
              rw [hQQ]
              exact W.zret (v := (0 : Int32)) hx hb hr rfl (fun t ht hW => ⟨⟨(0 : Int32), (), rfl, ⟨rfl, (by decide)⟩, by rw [ht]; exact hP9, va_K.moved hW.alike hK9, hD9⟩, hS.F ht⟩) hS.2.2 (zat zrX7_readBite_0_ok 51 rfl)
          · have h := (if_pos c62).symm.trans h
            refine lv_iconst (v := 0) hx hb (zat zrX7_readBite_0_ok 35 rfl) (by decide) ?_
            obtain rfl := Option.some.inj h
            obtain ⟨hP9, hD9⟩ := pd_sub (bX7 a0 ur kr o59.2 (bX6 a1 up kp p_p [])) [10, 11, 12, 13, 0, 1, 2, 3, 4, 5, 6, 7, 8, 9] hP hD (by decide) rfl
            have hK9 := hK.sub (tys' := []) [] rfl
            rw [hQQ]
            exact W.zret (v := (0 : Int32)) hx hb hr rfl (fun t ht hW => ⟨⟨(0 : Int32), (), rfl, ⟨rfl, (by decide)⟩, by rw [ht]; exact hP9, va_K.moved hW.alike hK9, hD9⟩, hS.F ht⟩) hS.2.2 (zat zrX7_readBite_0_ok 36 rfl)
      · have h := (if_pos c39).symm.trans h
        refine lv_iconst (v := 0) hx hb (zat zrX7_readBite_0_ok 23 rfl) (by decide) ?_
        obtain rfl := Option.some.inj h
        obtain ⟨hP9, hD9⟩ := pd_sub (bX7 a0 ur kr o36.2 (bX6 a1 up kp p_p [])) [10, 11, 12, 13, 0, 1, 2, 3, 4, 5, 6, 7, 8, 9] hP hD (by decide) rfl
        have hK9 := hK.sub (tys' := []) [] rfl
        rw [hQQ]
        exact W.zret (v := (0 : Int32)) hx hb hr rfl (fun t ht hW => ⟨⟨(0 : Int32), (), rfl, ⟨rfl, (by decide)⟩, by rw [ht]; exact hP9, va_K.moved hW.alike hK9, hD9⟩, hS.F ht⟩) hS.2.2 (zat zrX7_readBite_0_ok 24 rfl)
  · have h := (if_pos c11).symm.trans h
    refine lv_iconst (v := 0) hx hb (zat zrX7_readBite_0_ok 8 rfl) (by decide) ?_
    obtain rfl := Option.some.inj h
    obtain ⟨hP9, hD9⟩ := pd_sub (bX7 a0 ur kr o8.2 (bX6 a1 up kp p_p [])) [10, 11, 12, 13, 0, 1, 2, 3, 4, 5, 6, 7, 8, 9] hP hD (by decide) rfl
    have hK9 := hK.sub (tys' := []) [] rfl
    rw [hQQ]
    exact W.zret (v := (0 : Int32)) hx hb hr rfl (fun t ht hW => ⟨⟨(0 : Int32), (), rfl, ⟨rfl, (by decide)⟩, by rw [ht]; exact hP9, va_K.moved hW.alike hK9, hD9⟩, hS.F ht⟩) hS.2.2 (zat zrX7_readBite_0_ok 9 rfl)
noncomputable def zrX7_readLine_0 : List ZR := zc 0 true (.aload_n 0) 1 (zc 1 true (.ldc 76) 2 (zc 3 true (.invokevirtual 78) 3 (zc 6 true (.ifCond .eq 24) 3 (zc 9 true (.aload_n 1) 1 (zc 10 true (.getfield 82) 3 (zc 13 true (.ifCond .ne 11) 3 (zc 16 true (.aload_n 0) 1 (zc 17 true (.aload_n 1) 1 (zc 18 true (.invokevirtual 85) 3 (zc 21 true (.goto 8) 3 (zc 24 true (.aload_n 0) 1 (zc 25 true (.iconst 3) 1 (zc 26 true (.invokevirtual 72) 3 (zc 29 true (.ireturn) 1 (zc 30 true (.aload_n 0) 1 (zc 31 true (.ldc 88) 2 (zc 33 true (.invokevirtual 78) 3 (zc 36 true (.ifCond .eq 38) 3 (zc 39 true (.aload_n 0) 1 (zc 40 true (.aload_n 1) 1 (zc 41 true (.aload_n 1) 1 (zc 42 true (.getfield 69) 3 (zc 45 true (.iconst 4) 1 (zc 46 true (.if_icmp .ge 7) 3 (zc 49 true (.iconst 0) 1 (zc 50 true (.goto 4) 3 (zc 53 true (.iconst 5) 1 (zc 54 true (.invokevirtual 90) 3 (zc 57 true (.ifCond .eq 15) 3 (zc 60 true (.aload_n 0) 1 (zc 61 true (.aload_n 1) 1 (zc 62 true (.invokevirtual 94) 3 (zc 65 true (.ifCond .eq 7) 3 (zc 68 true (.iconst 1) 1 (zc 69 true (.goto 4) 3 (zc 72 true (.iconst 0) 1 (zc 73 true (.ireturn) 1 (zc 74 true (.aload_n 0) 1 (zc 75 true (.ldc 97) 2 (zc 77 true (.invokevirtual 78) 3 (zc 80 true (.ifCond .eq 38) 3 (zc 83 true (.aload_n 0) 1 (zc 84 true (.aload_n 1) 1 (zc 85 true (.aload_n 1) 1 (zc 86 true (.getfield 99) 3 (zc 89 true (.iconst 5) 1 (zc 90 true (.if_icmp .ge 7) 3 (zc 93 true (.iconst 0) 1 (zc 94 true (.goto 4) 3 (zc 97 true (.iconst 5) 1 (zc 98 true (.invokevirtual 90) 3 (zc 101 true (.ifCond .eq 15) 3 (zc 104 true (.aload_n 0) 1 (zc 105 true (.aload_n 1) 1 (zc 106 true (.invokevirtual 102) 3 (zc 109 true (.ifCond .eq 7) 3 (zc 112 true (.iconst 1) 1 (zc 113 true (.goto 4) 3 (zc 116 true (.iconst 0) 1 (zc 117 true (.ireturn) 1 (zc 118 true (.aload_n 0) 1 (zc 119 true (.ldc 105) 2 (zc 121 true (.invokevirtual 78) 3 ([]))))))))))))))))))))))))))))))))))))))))))))))))))))))))))))))))
theorem zrX7_readLine_0_ok : zck 0 ((zby cX7_readLine).drop 0) zrX7_readLine_0 = true := by decide +kernel
noncomputable def zrX7_readLine_1 : List ZR := zc 124 true (.ifCond .eq 39) 3 (zc 127 true (.aload_n 0) 1 (zc 128 true (.aload_n 1) 1 (zc 129 true (.aload_n 1) 1 (zc 130 true (.getfield 107) 3 (zc 133 true (.bipush 6) 2 (zc 135 true (.if_icmp .ge 7) 3 (zc 138 true (.iconst 0) 1 (zc 139 true (.goto 4) 3 (zc 142 true (.iconst 5) 1 (zc 143 true (.invokevirtual 90) 3 (zc 146 true (.ifCond .eq 15) 3 (zc 149 true (.aload_n 0) 1 (zc 150 true (.aload_n 1) 1 (zc 151 true (.invokevirtual 110) 3 (zc 154 true (.ifCond .eq 7) 3 (zc 157 true (.iconst 1) 1 (zc 158 true (.goto 4) 3 (zc 161 true (.iconst 0) 1 (zc 162 true (.ireturn) 1 (zc 163 true (.aload_n 0) 1 (zc 164 true (.ldc 113) 2 (zc 166 true (.invokevirtual 78) 3 (zc 169 true (.ifCond .eq 38) 3 (zc 172 true (.aload_n 0) 1 (zc 173 true (.aload_n 1) 1 (zc 174 true (.aload_n 1) 1 (zc 175 true (.getfield 115) 3 (zc 178 true (.iconst (-1)) 1 (zc 179 true (.if_icmp .ne 7) 3 (zc 182 true (.iconst 0) 1 (zc 183 true (.goto 4) 3 (zc 186 true (.iconst 3) 1 (zc 187 true (.invokevirtual 90) 3 (zc 190 true (.ifCond .eq 15) 3 (zc 193 true (.aload_n 0) 1 (zc 194 true (.aload_n 1) 1 (zc 195 true (.invokevirtual 118) 3 (zc 198 true (.ifCond .eq 7) 3 (zc 201 true (.iconst 1) 1 (zc 202 true (.goto 4) 3 (zc 205 true (.iconst 0) 1 (zc 206 true (.ireturn) 1 (zc 207 true (.aload_n 0) 1 (zc 208 true (.ldc 121) 2 (zc 210 true (.invokevirtual 78) 3 (zc 213 true (.ifCond .eq 54) 3 (zc 216 true (.aload_n 1) 1 (zc 217 true (.getfield 115) 3 (zc 220 true (.iconst (-1)) 1 (zc 221 true (.if_icmp .ne 8) 3 (zc 224 true (.bipush 6) 2 (zc 226 true (.goto 4) 3 (zc 229 true (.iconst 0) 1 (zc 230 true (.istore_n 2) 1 (zc 231 true (.aload_n 0) 1 (zc 232 true (.aload_n 1) 1 (zc 233 true (.aload_n 1) 1 (zc 234 true (.getfield 123) 3 (zc 237 true (.bipush 6) 2 (zc 239 true (.if_icmp .ge 7) 3 (zc 242 true (.iload_n 2) 1 (zc 243 true (.goto 4) 3 (zc 246 true (.iconst 5) 1 ([]))))))))))))))))))))))))))))))))))))))))))))))))))))))))))))))))
theorem zrX7_readLine_1_ok : zck 124 ((zby cX7_readLine).drop 124) zrX7_readLine_1 = true := by decide +kernel
noncomputable def zrX7_readLine_2 : List ZR := zc 247 true (.invokevirtual 90) 3 (zc 250 true (.ifCond .eq 15) 3 (zc 253 true (.aload_n 0) 1 (zc 254 true (.aload_n 1) 1 (zc 255 true (.invokevirtual 126) 3 (zc 258 true (.ifCond .eq 7) 3 (zc 261 true (.iconst 1) 1 (zc 262 true (.goto 4) 3 (zc 265 true (.iconst 0) 1 (zc 266 true (.ireturn) 1 (zc 267 true (.aload_n 0) 1 (zc 268 true (.iconst 1) 1 (zc 269 true (.invokevirtual 72) 3 (zc 272 true (.ireturn) 1 ([]))))))))))))))
theorem zrX7_readLine_2_ok : zck 247 ((zby cX7_readLine).drop 247) zrX7_readLine_2 = true := by decide +kernel
def vfX7_readLine : List Cond := List.cons (.code yX7_readLine cX7_readLine 3 (some .boolean)) (apW [.methodLink RX7 78 yX7_isWord, .instanceMethod yX7_isWord, .selects RX7 yX7_isWord yX7_isWord, .initialized RX7, .methodLink RX7 72 yX7_fail, .instanceMethod yX7_fail, .selects RX7 yX7_fail yX7_fail, .fieldLink RX7 115 "HookPier$Plan" "darkHunger" "I", .fieldLink RX7 123 "HookPier$Plan" "bites" "I", .methodLink RX7 90 yX7_opens, .instanceMethod yX7_opens, .selects RX7 yX7_opens yX7_opens, .methodLink RX7 126 yX7_readBite, .instanceMethod yX7_readBite, .selects RX7 yX7_readBite yX7_readBite, .methodLink RX7 118 yX7_readDark, .instanceMethod yX7_readDark, .selects RX7 yX7_readDark yX7_readDark, .fieldLink RX7 107 "HookPier$Plan" "answers" "I", .methodLink RX7 110 yX7_readAnswer, .instanceMethod yX7_readAnswer, .selects RX7 yX7_readAnswer yX7_readAnswer, .fieldLink RX7 99 "HookPier$Plan" "askers" "I", .methodLink RX7 102 yX7_readAsker, .instanceMethod yX7_readAsker, .selects RX7 yX7_readAsker yX7_readAsker, .fieldLink RX7 69 "HookPier$Plan" "baits" "I", .methodLink RX7 94 yX7_readBait, .instanceMethod yX7_readBait, .selects RX7 yX7_readBait yX7_readBait, .fieldLink RX7 82 "HookPier$Plan" "spots" "I", .methodLink RX7 85 yX7_readPier, .instanceMethod yX7_readPier, .selects RX7 yX7_readPier yX7_readPier] (apW wsX60 (apW vfX7_isWord (apW vfX7_fail (apW vfX7_opens (apW vfX7_readBite (apW vfX7_readDark (apW vfX7_readAnswer (apW vfX7_readAsker (apW vfX7_readBait (vfX7_readPier)))))))))))
theorem ifX7_readLine_X6 : ∀ w ∈ wsX60, w ∈ vfX7_readLine := fun _ h => (List.mem_cons_of_mem _ (List.mem_append_right _ (List.mem_append_left _ h)))
theorem qfX7_readLine : Good vfX7_readLine := gd_cons (by decide +kernel) (gd_app (gd_dec (by decide +kernel) : Good [.methodLink RX7 78 yX7_isWord, .instanceMethod yX7_isWord, .selects RX7 yX7_isWord yX7_isWord, .initialized RX7, .methodLink RX7 72 yX7_fail, .instanceMethod yX7_fail, .selects RX7 yX7_fail yX7_fail, .fieldLink RX7 115 "HookPier$Plan" "darkHunger" "I", .fieldLink RX7 123 "HookPier$Plan" "bites" "I", .methodLink RX7 90 yX7_opens, .instanceMethod yX7_opens, .selects RX7 yX7_opens yX7_opens, .methodLink RX7 126 yX7_readBite, .instanceMethod yX7_readBite, .selects RX7 yX7_readBite yX7_readBite, .methodLink RX7 118 yX7_readDark, .instanceMethod yX7_readDark, .selects RX7 yX7_readDark yX7_readDark, .fieldLink RX7 107 "HookPier$Plan" "answers" "I", .methodLink RX7 110 yX7_readAnswer, .instanceMethod yX7_readAnswer, .selects RX7 yX7_readAnswer yX7_readAnswer, .fieldLink RX7 99 "HookPier$Plan" "askers" "I", .methodLink RX7 102 yX7_readAsker, .instanceMethod yX7_readAsker, .selects RX7 yX7_readAsker yX7_readAsker, .fieldLink RX7 69 "HookPier$Plan" "baits" "I", .methodLink RX7 94 yX7_readBait, .instanceMethod yX7_readBait, .selects RX7 yX7_readBait yX7_readBait, .fieldLink RX7 82 "HookPier$Plan" "spots" "I", .methodLink RX7 85 yX7_readPier, .instanceMethod yX7_readPier, .selects RX7 yX7_readPier yX7_readPier]) (gd_app qsX6 (gd_app qfX7_isWord (gd_app qfX7_fail (gd_app qfX7_opens (gd_app qfX7_readBite (gd_app qfX7_readDark (gd_app qfX7_readAnswer (gd_app qfX7_readAsker (gd_app qfX7_readBait qfX7_readPier))))))))))
theorem gfX7_readLine_0 : GoodIn vfX7_readLine (wsV RX7 78 RX7 yX7_isWord vfX7_isWord) := goodIn_app (goodIn_r [.methodLink RX7 78 yX7_isWord, .instanceMethod yX7_isWord, .selects RX7 yX7_isWord yX7_isWord, .initialized RX7] [1, 2, 3, 4] rfl (by decide +kernel)) (goodIn_m (fun _ h => (List.mem_cons_of_mem _ (List.mem_append_right _ (List.mem_append_right _ (List.mem_append_left _ h))))) qfX7_isWord)
theorem gfX7_readLine_1 : GoodIn vfX7_readLine (wsV RX7 72 RX7 yX7_fail vfX7_fail) := goodIn_app (goodIn_r [.methodLink RX7 72 yX7_fail, .instanceMethod yX7_fail, .selects RX7 yX7_fail yX7_fail, .initialized RX7] [5, 6, 7, 4] rfl (by decide +kernel)) (goodIn_m (fun _ h => (List.mem_cons_of_mem _ (List.mem_append_right _ (List.mem_append_right _ (List.mem_append_right _ (List.mem_append_left _ h)))))) qfX7_fail)
theorem gfX7_readLine_2 : GoodIn vfX7_readLine (wsV RX7 90 RX7 yX7_opens vfX7_opens) := goodIn_app (goodIn_r [.methodLink RX7 90 yX7_opens, .instanceMethod yX7_opens, .selects RX7 yX7_opens yX7_opens, .initialized RX7] [10, 11, 12, 4] rfl (by decide +kernel)) (goodIn_m (fun _ h => (List.mem_cons_of_mem _ (List.mem_append_right _ (List.mem_append_right _ (List.mem_append_right _ (List.mem_append_right _ (List.mem_append_left _ h))))))) qfX7_opens)
theorem gfX7_readLine_3 : GoodIn vfX7_readLine (wsV RX7 126 RX7 yX7_readBite vfX7_readBite) := goodIn_app (goodIn_r [.methodLink RX7 126 yX7_readBite, .instanceMethod yX7_readBite, .selects RX7 yX7_readBite yX7_readBite, .initialized RX7] [13, 14, 15, 4] rfl (by decide +kernel)) (goodIn_m (fun _ h => (List.mem_cons_of_mem _ (List.mem_append_right _ (List.mem_append_right _ (List.mem_append_right _ (List.mem_append_right _ (List.mem_append_right _ (List.mem_append_left _ h)))))))) qfX7_readBite)
theorem gfX7_readLine_4 : GoodIn vfX7_readLine (wsV RX7 118 RX7 yX7_readDark vfX7_readDark) := goodIn_app (goodIn_r [.methodLink RX7 118 yX7_readDark, .instanceMethod yX7_readDark, .selects RX7 yX7_readDark yX7_readDark, .initialized RX7] [16, 17, 18, 4] rfl (by decide +kernel)) (goodIn_m (fun _ h => (List.mem_cons_of_mem _ (List.mem_append_right _ (List.mem_append_right _ (List.mem_append_right _ (List.mem_append_right _ (List.mem_append_right _ (List.mem_append_right _ (List.mem_append_left _ h))))))))) qfX7_readDark)
theorem gfX7_readLine_5 : GoodIn vfX7_readLine (wsV RX7 110 RX7 yX7_readAnswer vfX7_readAnswer) := goodIn_app (goodIn_r [.methodLink RX7 110 yX7_readAnswer, .instanceMethod yX7_readAnswer, .selects RX7 yX7_readAnswer yX7_readAnswer, .initialized RX7] [20, 21, 22, 4] rfl (by decide +kernel)) (goodIn_m (fun _ h => (List.mem_cons_of_mem _ (List.mem_append_right _ (List.mem_append_right _ (List.mem_append_right _ (List.mem_append_right _ (List.mem_append_right _ (List.mem_append_right _ (List.mem_append_right _ (List.mem_append_left _ h)))))))))) qfX7_readAnswer)
theorem gfX7_readLine_6 : GoodIn vfX7_readLine (wsV RX7 102 RX7 yX7_readAsker vfX7_readAsker) := goodIn_app (goodIn_r [.methodLink RX7 102 yX7_readAsker, .instanceMethod yX7_readAsker, .selects RX7 yX7_readAsker yX7_readAsker, .initialized RX7] [24, 25, 26, 4] rfl (by decide +kernel)) (goodIn_m (fun _ h => (List.mem_cons_of_mem _ (List.mem_append_right _ (List.mem_append_right _ (List.mem_append_right _ (List.mem_append_right _ (List.mem_append_right _ (List.mem_append_right _ (List.mem_append_right _ (List.mem_append_right _ (List.mem_append_left _ h))))))))))) qfX7_readAsker)
theorem gfX7_readLine_7 : GoodIn vfX7_readLine (wsV RX7 94 RX7 yX7_readBait vfX7_readBait) := goodIn_app (goodIn_r [.methodLink RX7 94 yX7_readBait, .instanceMethod yX7_readBait, .selects RX7 yX7_readBait yX7_readBait, .initialized RX7] [28, 29, 30, 4] rfl (by decide +kernel)) (goodIn_m (fun _ h => (List.mem_cons_of_mem _ (List.mem_append_right _ (List.mem_append_right _ (List.mem_append_right _ (List.mem_append_right _ (List.mem_append_right _ (List.mem_append_right _ (List.mem_append_right _ (List.mem_append_right _ (List.mem_append_right _ (List.mem_append_left _ h)))))))))))) qfX7_readBait)
theorem gfX7_readLine_8 : GoodIn vfX7_readLine (wsV RX7 85 RX7 yX7_readPier vfX7_readPier) := goodIn_app (goodIn_r [.methodLink RX7 85 yX7_readPier, .instanceMethod yX7_readPier, .selects RX7 yX7_readPier yX7_readPier, .initialized RX7] [32, 33, 34, 4] rfl (by decide +kernel)) (goodIn_m (fun _ h => (List.mem_cons_of_mem _ (List.mem_append_right _ (List.mem_append_right _ (List.mem_append_right _ (List.mem_append_right _ (List.mem_append_right _ (List.mem_append_right _ (List.mem_append_right _ (List.mem_append_right _ (List.mem_append_right _ (List.mem_append_right _ h)))))))))))) qfX7_readPier)
set_option maxHeartbeats 2000000 in
set_option maxRecDepth 100000 in
theorem kfX7_readLine (l : Launch) (dC : Nat → ClassId) (dI : Nat → Nat → Nat) (a0 : Nat) (a1 : Nat) (ur : Nat → Nat) (kr : Nat → ClassId) (up : Nat → Nat) (kp : Nat → ClassId) (r_r : TX7_r) (p_p : TX6_p) (sz : Nat) (B : Nat) (out : (Int32 × TX7_r × TX6_p)) (h : f_X7_readLine r_r p_p = some out) : Met l yX7_readLine vfX7_readLine ({ frames := 8, cells := 0, slots := 0, locals := 172 }) (PF (dC, dI) B [.ref a0, .ref a1] sz (bX7 a0 ur kr r_r (bX6 a1 up kp p_p [])) (tX7 kr (tX6 kp ([]))) []) (va_Qi (S := Unit) (fun (r : Int32) _ => r = out.1 ∧ (0 ≤ r.toInt ∧ r.toInt ≤ 1)) (fun _ t => BC (dC, dI) (va_A (bX7 a0 ur kr r_r (bX6 a1 up kp p_p [])) sz) (bX7 a0 ur kr out.2.1 (bX6 a1 up kp out.2.2 [])) [] t) (va_A (bX7 a0 ur kr r_r (bX6 a1 up kp p_p [])) sz)) 0 0 (va_A (bX7 a0 ur kr r_r (bX6 a1 up kp p_p [])) sz) := by
  refine Met.ofW (cc := cX7_readLine) (maxL := 3) (ret := (some .boolean)) (by decide) rfl ?_
  intro p e s m args below meth c s₁ B0 hml hv
  obtain ⟨rfl, hsz, hP, hK, hD0, hN, hBs, hE, hX⟩ := hv
  have hBA := PF_reg hD0 hBs
  have hx := B0.exec
  have hb := B0.bytes
  have hr := B0.returns
  have hts := atoms_spec (ws := vfX7_readLine) B0.pre
  have hown : s.vm.findClass RX7 = some m.cls := findClass_of_methodNamed B0.named
  have hlocks := B0.notSynchronized
  subst hsz
  have hD := hD0.self (sz := s.heap.size)
  generalize hAe : va_A (bX7 a0 ur kr r_r (bX6 a1 up kp p_p [])) s.heap.size = A at hD hBA ⊢
  have hA : ∀ q : Nat, s.heap.size ≤ q → A q := fun q h => by rw [← hAe]; exact Or.inr h
  have hS : va_S A s.heap s.heap [] := va_S.rf
  have hP : va_P (dC, dI) vwCl (bX7 a0 ur kr r_r (bX6 a1 up kp p_p [])) s.heap := hP
  have hl := lv_entry ([.ref a0, .ref a1]) (n := 3) (Nat.le_of_ble_eq_true rfl)
  rw [lg_entry_eq]
  generalize (lg_sl ([.ref a0, .ref a1]) ++ List.replicate (3 - (lg_sl ([.ref a0, .ref a1])).length) Slot.unset).toArray = ls at hl ⊢
  have hl : lv_has ls 3 [(0, .ref a0), (1, .ref a1)] := hl
  have hB : RB B s A := ⟨hBA, hBs⟩
  refine W_q (fun QQ hQQ => ?_)
  rw [f_X7_readLine] at h
  refine lv_aload_n hx hb (zat zrX7_readLine_0_ok 0 rfl) rfl (lv_at hl 0 rfl) ?_
  obtain ⟨s1, hs1, xs1⟩ := hE.1 (RX7, 76, "pier", tx_pier) (List.mem_of_getElem? (i := 0) rfl)
  refine va_ldcS hx hb hown hs1 (zat zrX7_readLine_0_ok 1 rfl) ?_
  obtain ⟨o3, eo3, h⟩ := bd_of h
  refine ck_i (wc := (bX7 a0 ur kr r_r [])) (wr := (bX6 a1 up kp p_p [])) hP hD hK hS hA [0, 1, 2, 3] [4, 5, 6, 7, 8, 9, 10, 11, 12, 13] rfl rfl (by decide) (by decide) (by decide) (fun hPc hDc => (va_runV (As := [.ref s1]) (rest := []) ⟨hx, hb, hml, hown, hts⟩ (kfX7_isWord l dC dI a0 s1 tx_pier ur kr r_r s.heap.size B o3 eo3) (cwV 1 hts gfX7_readLine_0 rfl rfl rfl (by decide +kernel) ⟨(Nat.le_of_ble_eq_true rfl), (Nat.le_of_ble_eq_true rfl)⟩) (PVF hPc (hK.sub (tys' := (tX7 kr ([]))) [0, 1, 2] rfl) hDc hN hS hB hE (S1c xs1 S1n) 0 rfl rfl) rfl rfl hl.1 rfl (lv_room (Nat.le_of_ble_eq_true rfl)) (zat zrX7_readLine_0_ok 2 rfl) ⟨(Nat.le_of_ble_eq_true rfl), (Nat.le_of_ble_eq_true rfl)⟩)) (fun r3 _ H locs hw hP hD _ hS => ?_)
  obtain ⟨hw, br3⟩ := hw
  obtain rfl := hw.symm
  obtain ⟨hP, hD⟩ := pd_mk (bX6 a1 up kp p_p (bX7 a0 ur kr r_r [])) hP hD
  refine lv_if_eq (tgt := 30) hx hb (zat zrX7_readLine_0_ok 3 rfl) (by decide) (fun c6 => ?_) (fun c6 => ?_)
  · have h := (if_pos c6).symm.trans h
    refine lv_aload_n hx hb (zat zrX7_readLine_0_ok 15 rfl) rfl (lv_at hl 0 rfl) ?_
    obtain ⟨s31, hs31, xs31⟩ := hE.1 (RX7, 88, "bait", tx_bait) (List.mem_of_getElem? (i := 5) rfl)
    refine va_ldcS hx hb hown hs31 (zat zrX7_readLine_0_ok 16 rfl) ?_
    obtain ⟨o33, eo33, h⟩ := bd_of h
    refine ck_i (wc := (bX7 a0 ur kr r_r [])) (wr := (bX6 a1 up kp p_p [])) hP hD hK hS hA [10, 11, 12, 13] [0, 1, 2, 3, 4, 5, 6, 7, 8, 9] rfl rfl (by decide) (by decide) (by decide) (fun hPc hDc => (va_runV (As := [.ref s31]) (rest := []) ⟨hx, hb, hml, hown, hts⟩ (kfX7_isWord l dC dI a0 s31 tx_bait ur kr r_r H.size B o33 eo33) (cwV 1 hts gfX7_readLine_0 rfl rfl rfl (by decide +kernel) ⟨(Nat.le_of_ble_eq_true rfl), (Nat.le_of_ble_eq_true rfl)⟩) (PVF hPc (hK.sub (tys' := (tX7 kr ([]))) [0, 1, 2] rfl) hDc hN hS hB hE (S1c xs31 S1n) 0 rfl rfl) rfl rfl hl.1 rfl (lv_room (Nat.le_of_ble_eq_true rfl)) (zat zrX7_readLine_0_ok 17 rfl) ⟨(Nat.le_of_ble_eq_true rfl), (Nat.le_of_ble_eq_true rfl)⟩)) (fun r33 _ H locs hw hP hD _ hS => ?_)
    obtain ⟨hw, br33⟩ := hw
    obtain rfl := hw.symm
    obtain ⟨hP, hD⟩ := pd_mk (bX6 a1 up kp p_p (bX7 a0 ur kr r_r [])) hP hD
    refine lv_if_eq (tgt := 74) hx hb (zat zrX7_readLine_0_ok 18 rfl) (by decide) (fun c36 => ?_) (fun c36 => ?_)
    · have h := (if_pos c36).symm.trans h
      refine lv_aload_n hx hb (zat zrX7_readLine_0_ok 38 rfl) rfl (lv_at hl 0 rfl) ?_
      obtain ⟨s75, hs75, xs75⟩ := hE.1 (RX7, 97, "asker", tx_asker) (List.mem_of_getElem? (i := 6) rfl)
      refine va_ldcS hx hb hown hs75 (zat zrX7_readLine_0_ok 39 rfl) ?_
      obtain ⟨o77, eo77, h⟩ := bd_of h
      refine ck_i (wc := (bX7 a0 ur kr r_r [])) (wr := (bX6 a1 up kp p_p [])) hP hD hK hS hA [10, 11, 12, 13] [0, 1, 2, 3, 4, 5, 6, 7, 8, 9] rfl rfl (by decide) (by decide) (by decide) (fun hPc hDc => (va_runV (As := [.ref s75]) (rest := []) ⟨hx, hb, hml, hown, hts⟩ (kfX7_isWord l dC dI a0 s75 tx_asker ur kr r_r H.size B o77 eo77) (cwV 1 hts gfX7_readLine_0 rfl rfl rfl (by decide +kernel) ⟨(Nat.le_of_ble_eq_true rfl), (Nat.le_of_ble_eq_true rfl)⟩) (PVF hPc (hK.sub (tys' := (tX7 kr ([]))) [0, 1, 2] rfl) hDc hN hS hB hE (S1c xs75 S1n) 0 rfl rfl) rfl rfl hl.1 rfl (lv_room (Nat.le_of_ble_eq_true rfl)) (zat zrX7_readLine_0_ok 40 rfl) ⟨(Nat.le_of_ble_eq_true rfl), (Nat.le_of_ble_eq_true rfl)⟩)) (fun r77 _ H locs hw hP hD _ hS => ?_)
      obtain ⟨hw, br77⟩ := hw
      obtain rfl := hw.symm
      obtain ⟨hP, hD⟩ := pd_mk (bX6 a1 up kp p_p (bX7 a0 ur kr r_r [])) hP hD
      refine lv_if_eq (tgt := 118) hx hb (zat zrX7_readLine_0_ok 41 rfl) (by decide) (fun c80 => ?_) (fun c80 => ?_)
      · have h := (if_pos c80).symm.trans h
        refine lv_aload_n hx hb (zat zrX7_readLine_0_ok 61 rfl) rfl (lv_at hl 0 rfl) ?_
        obtain ⟨s119, hs119, xs119⟩ := hE.1 (RX7, 105, "answer", tx_answer) (List.mem_of_getElem? (i := 7) rfl)
        refine va_ldcS hx hb hown hs119 (zat zrX7_readLine_0_ok 62 rfl) ?_
        obtain ⟨o121, eo121, h⟩ := bd_of h
        refine ck_i (wc := (bX7 a0 ur kr r_r [])) (wr := (bX6 a1 up kp p_p [])) hP hD hK hS hA [10, 11, 12, 13] [0, 1, 2, 3, 4, 5, 6, 7, 8, 9] rfl rfl (by decide) (by decide) (by decide) (fun hPc hDc => (va_runV (As := [.ref s119]) (rest := []) ⟨hx, hb, hml, hown, hts⟩ (kfX7_isWord l dC dI a0 s119 tx_answer ur kr r_r H.size B o121 eo121) (cwV 1 hts gfX7_readLine_0 rfl rfl rfl (by decide +kernel) ⟨(Nat.le_of_ble_eq_true rfl), (Nat.le_of_ble_eq_true rfl)⟩) (PVF hPc (hK.sub (tys' := (tX7 kr ([]))) [0, 1, 2] rfl) hDc hN hS hB hE (S1c xs119 S1n) 0 rfl rfl) rfl rfl hl.1 rfl (lv_room (Nat.le_of_ble_eq_true rfl)) (zat zrX7_readLine_0_ok 63 rfl) ⟨(Nat.le_of_ble_eq_true rfl), (Nat.le_of_ble_eq_true rfl)⟩)) (fun r121 _ H locs hw hP hD _ hS => ?_)
        obtain ⟨hw, br121⟩ := hw
        obtain rfl := hw.symm
        obtain ⟨hP, hD⟩ := pd_mk (bX6 a1 up kp p_p (bX7 a0 ur kr r_r [])) hP hD
        refine lv_if_eq (tgt := 163) hx hb (zat zrX7_readLine_1_ok 0 rfl) (by decide) (fun c124 => ?_) (fun c124 => ?_)
        · have h := (if_pos c124).symm.trans h
          refine lv_aload_n hx hb (zat zrX7_readLine_1_ok 20 rfl) rfl (lv_at hl 0 rfl) ?_
          obtain ⟨s164, hs164, xs164⟩ := hE.1 (RX7, 113, "dark", tx_dark) (List.mem_of_getElem? (i := 8) rfl)
          refine va_ldcS hx hb hown hs164 (zat zrX7_readLine_1_ok 21 rfl) ?_
          obtain ⟨o166, eo166, h⟩ := bd_of h
          refine ck_i (wc := (bX7 a0 ur kr r_r [])) (wr := (bX6 a1 up kp p_p [])) hP hD hK hS hA [10, 11, 12, 13] [0, 1, 2, 3, 4, 5, 6, 7, 8, 9] rfl rfl (by decide) (by decide) (by decide) (fun hPc hDc => (va_runV (As := [.ref s164]) (rest := []) ⟨hx, hb, hml, hown, hts⟩ (kfX7_isWord l dC dI a0 s164 tx_dark ur kr r_r H.size B o166 eo166) (cwV 1 hts gfX7_readLine_0 rfl rfl rfl (by decide +kernel) ⟨(Nat.le_of_ble_eq_true rfl), (Nat.le_of_ble_eq_true rfl)⟩) (PVF hPc (hK.sub (tys' := (tX7 kr ([]))) [0, 1, 2] rfl) hDc hN hS hB hE (S1c xs164 S1n) 0 rfl rfl) rfl rfl hl.1 rfl (lv_room (Nat.le_of_ble_eq_true rfl)) (zat zrX7_readLine_1_ok 22 rfl) ⟨(Nat.le_of_ble_eq_true rfl), (Nat.le_of_ble_eq_true rfl)⟩)) (fun r166 _ H locs hw hP hD _ hS => ?_)
          obtain ⟨hw, br166⟩ := hw
          obtain rfl := hw.symm
          obtain ⟨hP, hD⟩ := pd_mk (bX6 a1 up kp p_p (bX7 a0 ur kr r_r [])) hP hD
          refine lv_if_eq (tgt := 207) hx hb (zat zrX7_readLine_1_ok 23 rfl) (by decide) (fun c169 => ?_) (fun c169 => ?_)
          · have h := (if_pos c169).symm.trans h
            refine lv_aload_n hx hb (zat zrX7_readLine_1_ok 43 rfl) rfl (lv_at hl 0 rfl) ?_
            obtain ⟨s208, hs208, xs208⟩ := hE.1 (RX7, 121, "bite", tx_bite) (List.mem_of_getElem? (i := 9) rfl)
            refine va_ldcS hx hb hown hs208 (zat zrX7_readLine_1_ok 44 rfl) ?_
            obtain ⟨o210, eo210, h⟩ := bd_of h
            refine ck_i (wc := (bX7 a0 ur kr r_r [])) (wr := (bX6 a1 up kp p_p [])) hP hD hK hS hA [10, 11, 12, 13] [0, 1, 2, 3, 4, 5, 6, 7, 8, 9] rfl rfl (by decide) (by decide) (by decide) (fun hPc hDc => (va_runV (As := [.ref s208]) (rest := []) ⟨hx, hb, hml, hown, hts⟩ (kfX7_isWord l dC dI a0 s208 tx_bite ur kr r_r H.size B o210 eo210) (cwV 1 hts gfX7_readLine_0 rfl rfl rfl (by decide +kernel) ⟨(Nat.le_of_ble_eq_true rfl), (Nat.le_of_ble_eq_true rfl)⟩) (PVF hPc (hK.sub (tys' := (tX7 kr ([]))) [0, 1, 2] rfl) hDc hN hS hB hE (S1c xs208 S1n) 0 rfl rfl) rfl rfl hl.1 rfl (lv_room (Nat.le_of_ble_eq_true rfl)) (zat zrX7_readLine_1_ok 45 rfl) ⟨(Nat.le_of_ble_eq_true rfl), (Nat.le_of_ble_eq_true rfl)⟩)) (fun r210 _ H locs hw hP hD _ hS => ?_)
            obtain ⟨hw, br210⟩ := hw
            obtain rfl := hw.symm
            obtain ⟨hP, hD⟩ := pd_mk (bX6 a1 up kp p_p (bX7 a0 ur kr r_r [])) hP hD
            refine lv_if_eq (tgt := 267) hx hb (zat zrX7_readLine_1_ok 46 rfl) (by decide) (fun c213 => ?_) (fun c213 => ?_)
            · have h := (if_pos c213).symm.trans h
              refine lv_aload_n hx hb (zat zrX7_readLine_2_ok 10 rfl) rfl (lv_at hl 0 rfl) ?_
              refine lv_iconst (v := 1) hx hb (zat zrX7_readLine_2_ok 11 rfl) (by decide) ?_
              obtain ⟨o269, eo269⟩ : ∃ o, o = f_X7_fail (1 : Int32) r_r := ⟨_, rfl⟩
              have h := nm_of h o269 eo269
              refine ck_i (wc := (bX7 a0 ur kr r_r [])) (wr := (bX6 a1 up kp p_p [])) hP hD hK hS hA [10, 11, 12, 13] [0, 1, 2, 3, 4, 5, 6, 7, 8, 9] rfl rfl (by decide) (by decide) (by decide) (fun hPc hDc => (va_runV (As := [.int 1]) (rest := []) ⟨hx, hb, hml, hown, hts⟩ (kfX7_fail l dC dI a0 (1 : Int32) ur kr r_r H.size o269 eo269.symm) (cwV 1 hts gfX7_readLine_1 rfl rfl rfl (by decide +kernel) ⟨(Nat.le_of_ble_eq_true rfl), (Nat.le_of_ble_eq_true rfl)⟩) (PV hPc (hK.sub (tys' := (tX7 kr ([]))) [0, 1, 2] rfl) hDc hN 0 rfl rfl) rfl rfl hl.1 rfl (lv_room (Nat.le_of_ble_eq_true rfl)) (zat zrX7_readLine_2_ok 12 rfl) ⟨(Nat.le_of_ble_eq_true rfl), (Nat.le_of_ble_eq_true rfl)⟩)) (fun r269 _ H locs hw hP hD _ hS => ?_)
              obtain ⟨hw, br269⟩ := hw
              obtain rfl := hw
              obtain ⟨hP, hD⟩ := pd_mk (bX6 a1 up kp p_p (bX7 a0 ur kr o269 [])) hP hD
              obtain rfl := Option.some.inj h
              obtain ⟨hP9, hD9⟩ := pd_sub (bX7 a0 ur kr o269 (bX6 a1 up kp p_p [])) [10, 11, 12, 13, 0, 1, 2, 3, 4, 5, 6, 7, 8, 9] hP hD (by decide) rfl
              have hK9 := hK.sub (tys' := []) [] rfl
              rw [hQQ]
              exact W.zret (v := (0 : Int32)) hx hb hr rfl (fun t ht hW => ⟨⟨(0 : Int32), (), rfl, ⟨rfl, (by decide)⟩, by rw [ht]; exact hP9, va_K.moved hW.alike hK9, hD9⟩, hS.F ht⟩) hS.2.2 (zat zrX7_readLine_2_ok 13 rfl)
            · have h := (if_neg c213).symm.trans h
              refine lv_aload_n hx hb (zat zrX7_readLine_1_ok 47 rfl) rfl (lv_at hl 1 rfl) ?_
              refine va_get (D := (dC, dI)) (ci := 4) (v := .int p_p.2.2.2.2.2.2.2.2.1) (C := RX6) (T := TX6) (N := 18) hx hb hts ifX7_readLine_X6 hown hK hP 0 rfl rfl 8 (by decide) (hts (.fieldLink RX7 115 "HookPier$Plan" "darkHunger" "I") (List.mem_of_getElem? (i := 8) rfl)) (fun _ h9 => h9) rfl (zat zrX7_readLine_1_ok 48 rfl) ?_
              refine lv_iconst (v := (-1)) hx hb (zat zrX7_readLine_1_ok 49 rfl) (by decide) ?_
              have J230 : ∀ (v230_t0 : Int32) (H : Heap) (locs : List Loc) (ls : Array Slot), f_X7_readLine_J230 r_r p_p v230_t0 = some out → va_P (dC, dI) vwCl (bX6 a1 up kp p_p (bX7 a0 ur kr r_r [])) H → va_D A (bX6 a1 up kp p_p (bX7 a0 ur kr r_r [])) → va_S A s.heap H locs → lv_has ls 3 [(0, .ref a0), (1, .ref a1)] → W p l e (headSpec vfX7_readLine { frames := 8, cells := 0, slots := 0, locals := 172 }).room s m ([.ref a0, .ref a1]).toArray below meth c H locs 0 0 QQ (F0 m 230 ls [.int v230_t0]) := by
                intro v230_t0 H locs ls h  hP hD hS hl
                rw [f_X7_readLine_J230] at h
                refine lv_istore_n (lv' := [(2, .int v230_t0), (0, .ref a0), (1, .ref a1)]) hx hb (zat zrX7_readLine_1_ok 54 rfl) rfl hl (by decide) rfl (fun ls hl => ?_)
                refine lv_aload_n hx hb (zat zrX7_readLine_1_ok 55 rfl) rfl (lv_at hl 1 rfl) ?_
                refine lv_aload_n hx hb (zat zrX7_readLine_1_ok 56 rfl) rfl (lv_at hl 2 rfl) ?_
                refine lv_aload_n hx hb (zat zrX7_readLine_1_ok 57 rfl) rfl (lv_at hl 2 rfl) ?_
                refine va_get (D := (dC, dI)) (ci := 4) (v := .int p_p.2.2.2.2.2.2.2.1) (C := RX6) (T := TX6) (N := 18) hx hb hts ifX7_readLine_X6 hown hK hP 0 rfl rfl 7 (by decide) (hts (.fieldLink RX7 123 "HookPier$Plan" "bites" "I") (List.mem_of_getElem? (i := 9) rfl)) (fun _ h9 => h9) rfl (zat zrX7_readLine_1_ok 58 rfl) ?_
                refine lv_bipush (v := 6) hx hb (zat zrX7_readLine_1_ok 59 rfl) (by decide) ?_
                have J247 : ∀ (v247_t2 : Int32) (H : Heap) (locs : List Loc) (ls : Array Slot), f_X7_readLine_J247 r_r p_p v247_t2 = some out → va_P (dC, dI) vwCl (bX6 a1 up kp p_p (bX7 a0 ur kr r_r [])) H → va_D A (bX6 a1 up kp p_p (bX7 a0 ur kr r_r [])) → va_S A s.heap H locs → lv_has ls 3 [(0, .ref a0), (1, .ref a1)] → W p l e (headSpec vfX7_readLine { frames := 8, cells := 0, slots := 0, locals := 172 }).room s m ([.ref a0, .ref a1]).toArray below meth c H locs 0 0 QQ (F0 m 247 ls [.int v247_t2, .ref a1, .ref a0]) := by
                  intro v247_t2 H locs ls h  hP hD hS hl
                  rw [f_X7_readLine_J247] at h
                  obtain ⟨o247, eo247, h⟩ := bd_of h
                  refine ck_i (wc := (bX7 a0 ur kr r_r (bX6 a1 up kp p_p []))) (wr := []) hP hD hK hS hA [10, 11, 12, 13, 0, 1, 2, 3, 4, 5, 6, 7, 8, 9] [] rfl rfl (by decide) (by decide) (by decide) (fun hPc hDc => (va_runV (As := [.ref a1, .int v247_t2]) (rest := []) ⟨hx, hb, hml, hown, hts⟩ (kfX7_opens l dC dI a0 a1 v247_t2 ur kr up kp r_r p_p H.size o247 eo247) (cwV 2 hts gfX7_readLine_2 rfl rfl rfl (by decide +kernel) ⟨(Nat.le_of_ble_eq_true rfl), (Nat.le_of_ble_eq_true rfl)⟩) (PV hPc (hK.sub (tys' := (tX7 kr (tX6 kp ([])))) [0, 1, 2, 3, 4, 5, 6, 7, 8, 9, 10, 11] rfl) hDc hN 0 rfl rfl) rfl rfl hl.1 rfl (lv_room (Nat.le_of_ble_eq_true rfl)) (zat zrX7_readLine_2_ok 0 rfl) ⟨(Nat.le_of_ble_eq_true rfl), (Nat.le_of_ble_eq_true rfl)⟩)) (fun r247 _ H locs hw hP hD _ hS => ?_)
                  obtain ⟨hw, br247⟩ := hw
                  obtain rfl := hw
                  obtain ⟨hP, hD⟩ := pd_mk (bX7 a0 ur kr o247.2 (bX6 a1 up kp p_p [])) hP hD
                  refine lv_if_eq (tgt := 265) hx hb (zat zrX7_readLine_2_ok 1 rfl) (by decide) (fun c250 => ?_) (fun c250 => ?_)
                  · have h := (if_pos c250).symm.trans h
                    refine lv_iconst (v := 0) hx hb (zat zrX7_readLine_2_ok 8 rfl) (by decide) ?_
                    obtain rfl := Option.some.inj h
                    obtain ⟨hP9, hD9⟩ := pd_sub (bX7 a0 ur kr o247.2 (bX6 a1 up kp p_p [])) [0, 1, 2, 3, 4, 5, 6, 7, 8, 9, 10, 11, 12, 13] hP hD (by decide) rfl
                    have hK9 := hK.sub (tys' := []) [] rfl
                    rw [hQQ]
                    exact W.zret (v := (0 : Int32)) hx hb hr rfl (fun t ht hW => ⟨⟨(0 : Int32), (), rfl, ⟨rfl, (by decide)⟩, by rw [ht]; exact hP9, va_K.moved hW.alike hK9, hD9⟩, hS.F ht⟩) hS.2.2 (zat zrX7_readLine_2_ok 9 rfl)
                  · have h := (if_neg c250).symm.trans h
                    refine lv_aload_n hx hb (zat zrX7_readLine_2_ok 2 rfl) rfl (lv_at hl 0 rfl) ?_
                    refine lv_aload_n hx hb (zat zrX7_readLine_2_ok 3 rfl) rfl (lv_at hl 1 rfl) ?_
                    obtain ⟨o255, eo255, h⟩ := bd_of h
                    refine ck_i (wc := (bX7 a0 ur kr o247.2 (bX6 a1 up kp p_p []))) (wr := []) hP hD hK hS hA [0, 1, 2, 3, 4, 5, 6, 7, 8, 9, 10, 11, 12, 13] [] rfl rfl (by decide) (by decide) (by decide) (fun hPc hDc => (va_runV (As := [.ref a1]) (rest := []) ⟨hx, hb, hml, hown, hts⟩ (kfX7_readBite l dC dI a0 a1 ur kr up kp o247.2 p_p H.size B o255 eo255) (cwV 1 hts gfX7_readLine_3 rfl rfl rfl (by decide +kernel) ⟨(Nat.le_of_ble_eq_true rfl), (Nat.le_of_ble_eq_true rfl)⟩) (PVF hPc (hK.sub (tys' := (tX7 kr (tX6 kp ([])))) [0, 1, 2, 3, 4, 5, 6, 7, 8, 9, 10, 11] rfl) hDc hN hS hB hE S1n 0 rfl rfl) rfl rfl hl.1 rfl (lv_room (Nat.le_of_ble_eq_true rfl)) (zat zrX7_readLine_2_ok 4 rfl) ⟨(Nat.le_of_ble_eq_true rfl), (Nat.le_of_ble_eq_true rfl)⟩)) (fun r255 _ H locs hw hP hD _ hS => ?_)
                    obtain ⟨hw, br255⟩ := hw
                    obtain rfl := hw
                    obtain ⟨hP, hD⟩ := pd_mk (bX7 a0 ur kr o255.2.1 (bX6 a1 up kp o255.2.2 [])) hP hD
                    refine lv_if_eq (tgt := 265) hx hb (zat zrX7_readLine_2_ok 5 rfl) (by decide) (fun c258 => ?_) (fun c258 => ?_)
                    · have h := (if_pos c258).symm.trans h
                      refine lv_iconst (v := 0) hx hb (zat zrX7_readLine_2_ok 8 rfl) (by decide) ?_
                      obtain rfl := Option.some.inj h
                      obtain ⟨hP9, hD9⟩ := pd_sub (bX7 a0 ur kr o255.2.1 (bX6 a1 up kp o255.2.2 [])) [0, 1, 2, 3, 4, 5, 6, 7, 8, 9, 10, 11, 12, 13] hP hD (by decide) rfl
                      have hK9 := hK.sub (tys' := []) [] rfl
                      rw [hQQ]
                      exact W.zret (v := (0 : Int32)) hx hb hr rfl (fun t ht hW => ⟨⟨(0 : Int32), (), rfl, ⟨rfl, (by decide)⟩, by rw [ht]; exact hP9, va_K.moved hW.alike hK9, hD9⟩, hS.F ht⟩) hS.2.2 (zat zrX7_readLine_2_ok 9 rfl)
                    · have h := (if_neg c258).symm.trans h
                      refine lv_iconst (v := 1) hx hb (zat zrX7_readLine_2_ok 6 rfl) (by decide) ?_
                      refine lv_goto (tgt := 266) hx hb (zat zrX7_readLine_2_ok 7 rfl) (by decide) ?_
                      obtain rfl := Option.some.inj h
                      obtain ⟨hP9, hD9⟩ := pd_sub (bX7 a0 ur kr o255.2.1 (bX6 a1 up kp o255.2.2 [])) [0, 1, 2, 3, 4, 5, 6, 7, 8, 9, 10, 11, 12, 13] hP hD (by decide) rfl
                      have hK9 := hK.sub (tys' := []) [] rfl
                      rw [hQQ]
                      exact W.zret (v := (1 : Int32)) hx hb hr rfl (fun t ht hW => ⟨⟨(1 : Int32), (), rfl, ⟨rfl, (by decide)⟩, by rw [ht]; exact hP9, va_K.moved hW.alike hK9, hD9⟩, hS.F ht⟩) hS.2.2 (zat zrX7_readLine_2_ok 9 rfl)
                refine lv_icmp_ge (tgt := 246) hx hb (zat zrX7_readLine_1_ok 60 rfl) (by decide) (fun c239 => ?_) (fun c239 => ?_)
                · have h := (if_pos c239).symm.trans h
                  refine lv_iconst (v := 5) hx hb (zat zrX7_readLine_1_ok 63 rfl) (by decide) ?_
                  exact J247 (5 : Int32) H _ ls h  hP hD hS (lv_sub hl [1, 2] rfl)
                · have h := (if_neg c239).symm.trans h
                  refine lv_iload_n hx hb (zat zrX7_readLine_1_ok 61 rfl) rfl (lv_at hl 0 rfl) ?_
                  refine lv_goto (tgt := 247) hx hb (zat zrX7_readLine_1_ok 62 rfl) (by decide) ?_
                  exact J247 v230_t0 H _ ls h  hP hD hS (lv_sub hl [1, 2] rfl)
              refine lv_icmp_ne (tgt := 229) hx hb (zat zrX7_readLine_1_ok 50 rfl) (by decide) (fun c221 => ?_) (fun c221 => ?_)
              · have h := (if_neg c221).symm.trans h
                refine lv_iconst (v := 0) hx hb (zat zrX7_readLine_1_ok 53 rfl) (by decide) ?_
                exact J230 (0 : Int32) H _ ls h  hP hD hS (lv_sub hl [0, 1] rfl)
              · have h := (if_pos c221).symm.trans h
                refine lv_bipush (v := 6) hx hb (zat zrX7_readLine_1_ok 51 rfl) (by decide) ?_
                refine lv_goto (tgt := 230) hx hb (zat zrX7_readLine_1_ok 52 rfl) (by decide) ?_
                exact J230 (6 : Int32) H _ ls h  hP hD hS (lv_sub hl [0, 1] rfl)
          · have h := (if_neg c169).symm.trans h
            refine lv_aload_n hx hb (zat zrX7_readLine_1_ok 24 rfl) rfl (lv_at hl 0 rfl) ?_
            refine lv_aload_n hx hb (zat zrX7_readLine_1_ok 25 rfl) rfl (lv_at hl 1 rfl) ?_
            refine lv_aload_n hx hb (zat zrX7_readLine_1_ok 26 rfl) rfl (lv_at hl 1 rfl) ?_
            refine va_get (D := (dC, dI)) (ci := 4) (v := .int p_p.2.2.2.2.2.2.2.2.1) (C := RX6) (T := TX6) (N := 18) hx hb hts ifX7_readLine_X6 hown hK hP 0 rfl rfl 8 (by decide) (hts (.fieldLink RX7 115 "HookPier$Plan" "darkHunger" "I") (List.mem_of_getElem? (i := 8) rfl)) (fun _ h9 => h9) rfl (zat zrX7_readLine_1_ok 27 rfl) ?_
            refine lv_iconst (v := (-1)) hx hb (zat zrX7_readLine_1_ok 28 rfl) (by decide) ?_
            have J187 : ∀ (v187_t2 : Int32) (H : Heap) (locs : List Loc) (ls : Array Slot), f_X7_readLine_J187 r_r p_p v187_t2 = some out → va_P (dC, dI) vwCl (bX6 a1 up kp p_p (bX7 a0 ur kr r_r [])) H → va_D A (bX6 a1 up kp p_p (bX7 a0 ur kr r_r [])) → va_S A s.heap H locs → lv_has ls 3 [(0, .ref a0), (1, .ref a1)] → W p l e (headSpec vfX7_readLine { frames := 8, cells := 0, slots := 0, locals := 172 }).room s m ([.ref a0, .ref a1]).toArray below meth c H locs 0 0 QQ (F0 m 187 ls [.int v187_t2, .ref a1, .ref a0]) := by
              intro v187_t2 H locs ls h  hP hD hS hl
              rw [f_X7_readLine_J187] at h
              obtain ⟨o187, eo187, h⟩ := bd_of h
              refine ck_i (wc := (bX7 a0 ur kr r_r (bX6 a1 up kp p_p []))) (wr := []) hP hD hK hS hA [10, 11, 12, 13, 0, 1, 2, 3, 4, 5, 6, 7, 8, 9] [] rfl rfl (by decide) (by decide) (by decide) (fun hPc hDc => (va_runV (As := [.ref a1, .int v187_t2]) (rest := []) ⟨hx, hb, hml, hown, hts⟩ (kfX7_opens l dC dI a0 a1 v187_t2 ur kr up kp r_r p_p H.size o187 eo187) (cwV 2 hts gfX7_readLine_2 rfl rfl rfl (by decide +kernel) ⟨(Nat.le_of_ble_eq_true rfl), (Nat.le_of_ble_eq_true rfl)⟩) (PV hPc (hK.sub (tys' := (tX7 kr (tX6 kp ([])))) [0, 1, 2, 3, 4, 5, 6, 7, 8, 9, 10, 11] rfl) hDc hN 0 rfl rfl) rfl rfl hl.1 rfl (lv_room (Nat.le_of_ble_eq_true rfl)) (zat zrX7_readLine_1_ok 33 rfl) ⟨(Nat.le_of_ble_eq_true rfl), (Nat.le_of_ble_eq_true rfl)⟩)) (fun r187 _ H locs hw hP hD _ hS => ?_)
              obtain ⟨hw, br187⟩ := hw
              obtain rfl := hw
              obtain ⟨hP, hD⟩ := pd_mk (bX7 a0 ur kr o187.2 (bX6 a1 up kp p_p [])) hP hD
              refine lv_if_eq (tgt := 205) hx hb (zat zrX7_readLine_1_ok 34 rfl) (by decide) (fun c190 => ?_) (fun c190 => ?_)
              · have h := (if_pos c190).symm.trans h
                refine lv_iconst (v := 0) hx hb (zat zrX7_readLine_1_ok 41 rfl) (by decide) ?_
                obtain rfl := Option.some.inj h
                obtain ⟨hP9, hD9⟩ := pd_sub (bX7 a0 ur kr o187.2 (bX6 a1 up kp p_p [])) [0, 1, 2, 3, 4, 5, 6, 7, 8, 9, 10, 11, 12, 13] hP hD (by decide) rfl
                have hK9 := hK.sub (tys' := []) [] rfl
                rw [hQQ]
                exact W.zret (v := (0 : Int32)) hx hb hr rfl (fun t ht hW => ⟨⟨(0 : Int32), (), rfl, ⟨rfl, (by decide)⟩, by rw [ht]; exact hP9, va_K.moved hW.alike hK9, hD9⟩, hS.F ht⟩) hS.2.2 (zat zrX7_readLine_1_ok 42 rfl)
              · have h := (if_neg c190).symm.trans h
                refine lv_aload_n hx hb (zat zrX7_readLine_1_ok 35 rfl) rfl (lv_at hl 0 rfl) ?_
                refine lv_aload_n hx hb (zat zrX7_readLine_1_ok 36 rfl) rfl (lv_at hl 1 rfl) ?_
                obtain ⟨o195, eo195, h⟩ := bd_of h
                refine ck_i (wc := (bX7 a0 ur kr o187.2 (bX6 a1 up kp p_p []))) (wr := []) hP hD hK hS hA [0, 1, 2, 3, 4, 5, 6, 7, 8, 9, 10, 11, 12, 13] [] rfl rfl (by decide) (by decide) (by decide) (fun hPc hDc => (va_runV (As := [.ref a1]) (rest := []) ⟨hx, hb, hml, hown, hts⟩ (kfX7_readDark l dC dI a0 a1 ur kr up kp o187.2 p_p H.size B o195 eo195) (cwV 1 hts gfX7_readLine_4 rfl rfl rfl (by decide +kernel) ⟨(Nat.le_of_ble_eq_true rfl), (Nat.le_of_ble_eq_true rfl)⟩) (PVF hPc (hK.sub (tys' := (tX7 kr (tX6 kp ([])))) [0, 1, 2, 3, 4, 5, 6, 7, 8, 9, 10, 11] rfl) hDc hN hS hB hE S1n 0 rfl rfl) rfl rfl hl.1 rfl (lv_room (Nat.le_of_ble_eq_true rfl)) (zat zrX7_readLine_1_ok 37 rfl) ⟨(Nat.le_of_ble_eq_true rfl), (Nat.le_of_ble_eq_true rfl)⟩)) (fun r195 _ H locs hw hP hD _ hS => ?_)
                obtain ⟨hw, br195⟩ := hw
                obtain rfl := hw
                obtain ⟨hP, hD⟩ := pd_mk (bX7 a0 ur kr o195.2.1 (bX6 a1 up kp o195.2.2 [])) hP hD
                refine lv_if_eq (tgt := 205) hx hb (zat zrX7_readLine_1_ok 38 rfl) (by decide) (fun c198 => ?_) (fun c198 => ?_)
                · have h := (if_pos c198).symm.trans h
                  refine lv_iconst (v := 0) hx hb (zat zrX7_readLine_1_ok 41 rfl) (by decide) ?_
                  obtain rfl := Option.some.inj h
                  obtain ⟨hP9, hD9⟩ := pd_sub (bX7 a0 ur kr o195.2.1 (bX6 a1 up kp o195.2.2 [])) [0, 1, 2, 3, 4, 5, 6, 7, 8, 9, 10, 11, 12, 13] hP hD (by decide) rfl
                  have hK9 := hK.sub (tys' := []) [] rfl
                  rw [hQQ]
                  exact W.zret (v := (0 : Int32)) hx hb hr rfl (fun t ht hW => ⟨⟨(0 : Int32), (), rfl, ⟨rfl, (by decide)⟩, by rw [ht]; exact hP9, va_K.moved hW.alike hK9, hD9⟩, hS.F ht⟩) hS.2.2 (zat zrX7_readLine_1_ok 42 rfl)
                · have h := (if_neg c198).symm.trans h
                  refine lv_iconst (v := 1) hx hb (zat zrX7_readLine_1_ok 39 rfl) (by decide) ?_
                  refine lv_goto (tgt := 206) hx hb (zat zrX7_readLine_1_ok 40 rfl) (by decide) ?_
                  obtain rfl := Option.some.inj h
                  obtain ⟨hP9, hD9⟩ := pd_sub (bX7 a0 ur kr o195.2.1 (bX6 a1 up kp o195.2.2 [])) [0, 1, 2, 3, 4, 5, 6, 7, 8, 9, 10, 11, 12, 13] hP hD (by decide) rfl
                  have hK9 := hK.sub (tys' := []) [] rfl
                  rw [hQQ]
                  exact W.zret (v := (1 : Int32)) hx hb hr rfl (fun t ht hW => ⟨⟨(1 : Int32), (), rfl, ⟨rfl, (by decide)⟩, by rw [ht]; exact hP9, va_K.moved hW.alike hK9, hD9⟩, hS.F ht⟩) hS.2.2 (zat zrX7_readLine_1_ok 42 rfl)
            refine lv_icmp_ne (tgt := 186) hx hb (zat zrX7_readLine_1_ok 29 rfl) (by decide) (fun c179 => ?_) (fun c179 => ?_)
            · have h := (if_neg c179).symm.trans h
              refine lv_iconst (v := 3) hx hb (zat zrX7_readLine_1_ok 32 rfl) (by decide) ?_
              exact J187 (3 : Int32) H _ ls h  hP hD hS (lv_sub hl [0, 1] rfl)
            · have h := (if_pos c179).symm.trans h
              refine lv_iconst (v := 0) hx hb (zat zrX7_readLine_1_ok 30 rfl) (by decide) ?_
              refine lv_goto (tgt := 187) hx hb (zat zrX7_readLine_1_ok 31 rfl) (by decide) ?_
              exact J187 (0 : Int32) H _ ls h  hP hD hS (lv_sub hl [0, 1] rfl)
        · have h := (if_neg c124).symm.trans h
          refine lv_aload_n hx hb (zat zrX7_readLine_1_ok 1 rfl) rfl (lv_at hl 0 rfl) ?_
          refine lv_aload_n hx hb (zat zrX7_readLine_1_ok 2 rfl) rfl (lv_at hl 1 rfl) ?_
          refine lv_aload_n hx hb (zat zrX7_readLine_1_ok 3 rfl) rfl (lv_at hl 1 rfl) ?_
          refine va_get (D := (dC, dI)) (ci := 4) (v := .int p_p.2.2.2.2.2.2.1) (C := RX6) (T := TX6) (N := 18) hx hb hts ifX7_readLine_X6 hown hK hP 0 rfl rfl 6 (by decide) (hts (.fieldLink RX7 107 "HookPier$Plan" "answers" "I") (List.mem_of_getElem? (i := 19) rfl)) (fun _ h9 => h9) rfl (zat zrX7_readLine_1_ok 4 rfl) ?_
          refine lv_bipush (v := 6) hx hb (zat zrX7_readLine_1_ok 5 rfl) (by decide) ?_
          have J143 : ∀ (v143_t2 : Int32) (H : Heap) (locs : List Loc) (ls : Array Slot), f_X7_readLine_J143 r_r p_p v143_t2 = some out → va_P (dC, dI) vwCl (bX6 a1 up kp p_p (bX7 a0 ur kr r_r [])) H → va_D A (bX6 a1 up kp p_p (bX7 a0 ur kr r_r [])) → va_S A s.heap H locs → lv_has ls 3 [(0, .ref a0), (1, .ref a1)] → W p l e (headSpec vfX7_readLine { frames := 8, cells := 0, slots := 0, locals := 172 }).room s m ([.ref a0, .ref a1]).toArray below meth c H locs 0 0 QQ (F0 m 143 ls [.int v143_t2, .ref a1, .ref a0]) := by
            intro v143_t2 H locs ls h  hP hD hS hl
            rw [f_X7_readLine_J143] at h
            obtain ⟨o143, eo143, h⟩ := bd_of h
            refine ck_i (wc := (bX7 a0 ur kr r_r (bX6 a1 up kp p_p []))) (wr := []) hP hD hK hS hA [10, 11, 12, 13, 0, 1, 2, 3, 4, 5, 6, 7, 8, 9] [] rfl rfl (by decide) (by decide) (by decide) (fun hPc hDc => (va_runV (As := [.ref a1, .int v143_t2]) (rest := []) ⟨hx, hb, hml, hown, hts⟩ (kfX7_opens l dC dI a0 a1 v143_t2 ur kr up kp r_r p_p H.size o143 eo143) (cwV 2 hts gfX7_readLine_2 rfl rfl rfl (by decide +kernel) ⟨(Nat.le_of_ble_eq_true rfl), (Nat.le_of_ble_eq_true rfl)⟩) (PV hPc (hK.sub (tys' := (tX7 kr (tX6 kp ([])))) [0, 1, 2, 3, 4, 5, 6, 7, 8, 9, 10, 11] rfl) hDc hN 0 rfl rfl) rfl rfl hl.1 rfl (lv_room (Nat.le_of_ble_eq_true rfl)) (zat zrX7_readLine_1_ok 10 rfl) ⟨(Nat.le_of_ble_eq_true rfl), (Nat.le_of_ble_eq_true rfl)⟩)) (fun r143 _ H locs hw hP hD _ hS => ?_)
            obtain ⟨hw, br143⟩ := hw
            obtain rfl := hw
            obtain ⟨hP, hD⟩ := pd_mk (bX7 a0 ur kr o143.2 (bX6 a1 up kp p_p [])) hP hD
            refine lv_if_eq (tgt := 161) hx hb (zat zrX7_readLine_1_ok 11 rfl) (by decide) (fun c146 => ?_) (fun c146 => ?_)
            · have h := (if_pos c146).symm.trans h
              refine lv_iconst (v := 0) hx hb (zat zrX7_readLine_1_ok 18 rfl) (by decide) ?_
              obtain rfl := Option.some.inj h
              obtain ⟨hP9, hD9⟩ := pd_sub (bX7 a0 ur kr o143.2 (bX6 a1 up kp p_p [])) [0, 1, 2, 3, 4, 5, 6, 7, 8, 9, 10, 11, 12, 13] hP hD (by decide) rfl
              have hK9 := hK.sub (tys' := []) [] rfl
              rw [hQQ]
              exact W.zret (v := (0 : Int32)) hx hb hr rfl (fun t ht hW => ⟨⟨(0 : Int32), (), rfl, ⟨rfl, (by decide)⟩, by rw [ht]; exact hP9, va_K.moved hW.alike hK9, hD9⟩, hS.F ht⟩) hS.2.2 (zat zrX7_readLine_1_ok 19 rfl)
            · have h := (if_neg c146).symm.trans h
              refine lv_aload_n hx hb (zat zrX7_readLine_1_ok 12 rfl) rfl (lv_at hl 0 rfl) ?_
              refine lv_aload_n hx hb (zat zrX7_readLine_1_ok 13 rfl) rfl (lv_at hl 1 rfl) ?_
              obtain ⟨o151, eo151, h⟩ := bd_of h
              refine ck_i (wc := (bX7 a0 ur kr o143.2 (bX6 a1 up kp p_p []))) (wr := []) hP hD hK hS hA [0, 1, 2, 3, 4, 5, 6, 7, 8, 9, 10, 11, 12, 13] [] rfl rfl (by decide) (by decide) (by decide) (fun hPc hDc => (va_runV (As := [.ref a1]) (rest := []) ⟨hx, hb, hml, hown, hts⟩ (kfX7_readAnswer l dC dI a0 a1 ur kr up kp o143.2 p_p H.size B o151 eo151) (cwV 1 hts gfX7_readLine_5 rfl rfl rfl (by decide +kernel) ⟨(Nat.le_of_ble_eq_true rfl), (Nat.le_of_ble_eq_true rfl)⟩) (PVF hPc (hK.sub (tys' := (tX7 kr (tX6 kp ([])))) [0, 1, 2, 3, 4, 5, 6, 7, 8, 9, 10, 11] rfl) hDc hN hS hB hE S1n 0 rfl rfl) rfl rfl hl.1 rfl (lv_room (Nat.le_of_ble_eq_true rfl)) (zat zrX7_readLine_1_ok 14 rfl) ⟨(Nat.le_of_ble_eq_true rfl), (Nat.le_of_ble_eq_true rfl)⟩)) (fun r151 _ H locs hw hP hD _ hS => ?_)
              obtain ⟨hw, br151⟩ := hw
              obtain rfl := hw
              obtain ⟨hP, hD⟩ := pd_mk (bX7 a0 ur kr o151.2.1 (bX6 a1 up kp o151.2.2 [])) hP hD
              refine lv_if_eq (tgt := 161) hx hb (zat zrX7_readLine_1_ok 15 rfl) (by decide) (fun c154 => ?_) (fun c154 => ?_)
              · have h := (if_pos c154).symm.trans h
                refine lv_iconst (v := 0) hx hb (zat zrX7_readLine_1_ok 18 rfl) (by decide) ?_
                obtain rfl := Option.some.inj h
                obtain ⟨hP9, hD9⟩ := pd_sub (bX7 a0 ur kr o151.2.1 (bX6 a1 up kp o151.2.2 [])) [0, 1, 2, 3, 4, 5, 6, 7, 8, 9, 10, 11, 12, 13] hP hD (by decide) rfl
                have hK9 := hK.sub (tys' := []) [] rfl
                rw [hQQ]
                exact W.zret (v := (0 : Int32)) hx hb hr rfl (fun t ht hW => ⟨⟨(0 : Int32), (), rfl, ⟨rfl, (by decide)⟩, by rw [ht]; exact hP9, va_K.moved hW.alike hK9, hD9⟩, hS.F ht⟩) hS.2.2 (zat zrX7_readLine_1_ok 19 rfl)
              · have h := (if_neg c154).symm.trans h
                refine lv_iconst (v := 1) hx hb (zat zrX7_readLine_1_ok 16 rfl) (by decide) ?_
                refine lv_goto (tgt := 162) hx hb (zat zrX7_readLine_1_ok 17 rfl) (by decide) ?_
                obtain rfl := Option.some.inj h
                obtain ⟨hP9, hD9⟩ := pd_sub (bX7 a0 ur kr o151.2.1 (bX6 a1 up kp o151.2.2 [])) [0, 1, 2, 3, 4, 5, 6, 7, 8, 9, 10, 11, 12, 13] hP hD (by decide) rfl
                have hK9 := hK.sub (tys' := []) [] rfl
                rw [hQQ]
                exact W.zret (v := (1 : Int32)) hx hb hr rfl (fun t ht hW => ⟨⟨(1 : Int32), (), rfl, ⟨rfl, (by decide)⟩, by rw [ht]; exact hP9, va_K.moved hW.alike hK9, hD9⟩, hS.F ht⟩) hS.2.2 (zat zrX7_readLine_1_ok 19 rfl)
          refine lv_icmp_ge (tgt := 142) hx hb (zat zrX7_readLine_1_ok 6 rfl) (by decide) (fun c135 => ?_) (fun c135 => ?_)
          · have h := (if_pos c135).symm.trans h
            refine lv_iconst (v := 5) hx hb (zat zrX7_readLine_1_ok 9 rfl) (by decide) ?_
            exact J143 (5 : Int32) H _ ls h  hP hD hS (lv_sub hl [0, 1] rfl)
          · have h := (if_neg c135).symm.trans h
            refine lv_iconst (v := 0) hx hb (zat zrX7_readLine_1_ok 7 rfl) (by decide) ?_
            refine lv_goto (tgt := 143) hx hb (zat zrX7_readLine_1_ok 8 rfl) (by decide) ?_
            exact J143 (0 : Int32) H _ ls h  hP hD hS (lv_sub hl [0, 1] rfl)
      · have h := (if_neg c80).symm.trans h
        refine lv_aload_n hx hb (zat zrX7_readLine_0_ok 42 rfl) rfl (lv_at hl 0 rfl) ?_
        refine lv_aload_n hx hb (zat zrX7_readLine_0_ok 43 rfl) rfl (lv_at hl 1 rfl) ?_
        refine lv_aload_n hx hb (zat zrX7_readLine_0_ok 44 rfl) rfl (lv_at hl 1 rfl) ?_
        refine va_get (D := (dC, dI)) (ci := 4) (v := .int p_p.2.2.2.2.2.1) (C := RX6) (T := TX6) (N := 18) hx hb hts ifX7_readLine_X6 hown hK hP 0 rfl rfl 5 (by decide) (hts (.fieldLink RX7 99 "HookPier$Plan" "askers" "I") (List.mem_of_getElem? (i := 23) rfl)) (fun _ h9 => h9) rfl (zat zrX7_readLine_0_ok 45 rfl) ?_
        refine lv_iconst (v := 5) hx hb (zat zrX7_readLine_0_ok 46 rfl) (by decide) ?_
        have J98 : ∀ (v98_t2 : Int32) (H : Heap) (locs : List Loc) (ls : Array Slot), f_X7_readLine_J98 r_r p_p v98_t2 = some out → va_P (dC, dI) vwCl (bX6 a1 up kp p_p (bX7 a0 ur kr r_r [])) H → va_D A (bX6 a1 up kp p_p (bX7 a0 ur kr r_r [])) → va_S A s.heap H locs → lv_has ls 3 [(0, .ref a0), (1, .ref a1)] → W p l e (headSpec vfX7_readLine { frames := 8, cells := 0, slots := 0, locals := 172 }).room s m ([.ref a0, .ref a1]).toArray below meth c H locs 0 0 QQ (F0 m 98 ls [.int v98_t2, .ref a1, .ref a0]) := by
          intro v98_t2 H locs ls h  hP hD hS hl
          rw [f_X7_readLine_J98] at h
          obtain ⟨o98, eo98, h⟩ := bd_of h
          refine ck_i (wc := (bX7 a0 ur kr r_r (bX6 a1 up kp p_p []))) (wr := []) hP hD hK hS hA [10, 11, 12, 13, 0, 1, 2, 3, 4, 5, 6, 7, 8, 9] [] rfl rfl (by decide) (by decide) (by decide) (fun hPc hDc => (va_runV (As := [.ref a1, .int v98_t2]) (rest := []) ⟨hx, hb, hml, hown, hts⟩ (kfX7_opens l dC dI a0 a1 v98_t2 ur kr up kp r_r p_p H.size o98 eo98) (cwV 2 hts gfX7_readLine_2 rfl rfl rfl (by decide +kernel) ⟨(Nat.le_of_ble_eq_true rfl), (Nat.le_of_ble_eq_true rfl)⟩) (PV hPc (hK.sub (tys' := (tX7 kr (tX6 kp ([])))) [0, 1, 2, 3, 4, 5, 6, 7, 8, 9, 10, 11] rfl) hDc hN 0 rfl rfl) rfl rfl hl.1 rfl (lv_room (Nat.le_of_ble_eq_true rfl)) (zat zrX7_readLine_0_ok 51 rfl) ⟨(Nat.le_of_ble_eq_true rfl), (Nat.le_of_ble_eq_true rfl)⟩)) (fun r98 _ H locs hw hP hD _ hS => ?_)
          obtain ⟨hw, br98⟩ := hw
          obtain rfl := hw
          obtain ⟨hP, hD⟩ := pd_mk (bX7 a0 ur kr o98.2 (bX6 a1 up kp p_p [])) hP hD
          refine lv_if_eq (tgt := 116) hx hb (zat zrX7_readLine_0_ok 52 rfl) (by decide) (fun c101 => ?_) (fun c101 => ?_)
          · have h := (if_pos c101).symm.trans h
            refine lv_iconst (v := 0) hx hb (zat zrX7_readLine_0_ok 59 rfl) (by decide) ?_
            obtain rfl := Option.some.inj h
            obtain ⟨hP9, hD9⟩ := pd_sub (bX7 a0 ur kr o98.2 (bX6 a1 up kp p_p [])) [0, 1, 2, 3, 4, 5, 6, 7, 8, 9, 10, 11, 12, 13] hP hD (by decide) rfl
            have hK9 := hK.sub (tys' := []) [] rfl
            rw [hQQ]
            exact W.zret (v := (0 : Int32)) hx hb hr rfl (fun t ht hW => ⟨⟨(0 : Int32), (), rfl, ⟨rfl, (by decide)⟩, by rw [ht]; exact hP9, va_K.moved hW.alike hK9, hD9⟩, hS.F ht⟩) hS.2.2 (zat zrX7_readLine_0_ok 60 rfl)
          · have h := (if_neg c101).symm.trans h
            refine lv_aload_n hx hb (zat zrX7_readLine_0_ok 53 rfl) rfl (lv_at hl 0 rfl) ?_
            refine lv_aload_n hx hb (zat zrX7_readLine_0_ok 54 rfl) rfl (lv_at hl 1 rfl) ?_
            obtain ⟨o106, eo106, h⟩ := bd_of h
            refine ck_i (wc := (bX7 a0 ur kr o98.2 (bX6 a1 up kp p_p []))) (wr := []) hP hD hK hS hA [0, 1, 2, 3, 4, 5, 6, 7, 8, 9, 10, 11, 12, 13] [] rfl rfl (by decide) (by decide) (by decide) (fun hPc hDc => (va_runV (As := [.ref a1]) (rest := []) ⟨hx, hb, hml, hown, hts⟩ (kfX7_readAsker l dC dI a0 a1 ur kr up kp o98.2 p_p H.size B o106 eo106) (cwV 1 hts gfX7_readLine_6 rfl rfl rfl (by decide +kernel) ⟨(Nat.le_of_ble_eq_true rfl), (Nat.le_of_ble_eq_true rfl)⟩) (PVF hPc (hK.sub (tys' := (tX7 kr (tX6 kp ([])))) [0, 1, 2, 3, 4, 5, 6, 7, 8, 9, 10, 11] rfl) hDc hN hS hB hE S1n 0 rfl rfl) rfl rfl hl.1 rfl (lv_room (Nat.le_of_ble_eq_true rfl)) (zat zrX7_readLine_0_ok 55 rfl) ⟨(Nat.le_of_ble_eq_true rfl), (Nat.le_of_ble_eq_true rfl)⟩)) (fun r106 _ H locs hw hP hD _ hS => ?_)
            obtain ⟨hw, br106⟩ := hw
            obtain rfl := hw
            obtain ⟨hP, hD⟩ := pd_mk (bX7 a0 ur kr o106.2.1 (bX6 a1 up kp o106.2.2 [])) hP hD
            refine lv_if_eq (tgt := 116) hx hb (zat zrX7_readLine_0_ok 56 rfl) (by decide) (fun c109 => ?_) (fun c109 => ?_)
            · have h := (if_pos c109).symm.trans h
              refine lv_iconst (v := 0) hx hb (zat zrX7_readLine_0_ok 59 rfl) (by decide) ?_
              obtain rfl := Option.some.inj h
              obtain ⟨hP9, hD9⟩ := pd_sub (bX7 a0 ur kr o106.2.1 (bX6 a1 up kp o106.2.2 [])) [0, 1, 2, 3, 4, 5, 6, 7, 8, 9, 10, 11, 12, 13] hP hD (by decide) rfl
              have hK9 := hK.sub (tys' := []) [] rfl
              rw [hQQ]
              exact W.zret (v := (0 : Int32)) hx hb hr rfl (fun t ht hW => ⟨⟨(0 : Int32), (), rfl, ⟨rfl, (by decide)⟩, by rw [ht]; exact hP9, va_K.moved hW.alike hK9, hD9⟩, hS.F ht⟩) hS.2.2 (zat zrX7_readLine_0_ok 60 rfl)
            · have h := (if_neg c109).symm.trans h
              refine lv_iconst (v := 1) hx hb (zat zrX7_readLine_0_ok 57 rfl) (by decide) ?_
              refine lv_goto (tgt := 117) hx hb (zat zrX7_readLine_0_ok 58 rfl) (by decide) ?_
              obtain rfl := Option.some.inj h
              obtain ⟨hP9, hD9⟩ := pd_sub (bX7 a0 ur kr o106.2.1 (bX6 a1 up kp o106.2.2 [])) [0, 1, 2, 3, 4, 5, 6, 7, 8, 9, 10, 11, 12, 13] hP hD (by decide) rfl
              have hK9 := hK.sub (tys' := []) [] rfl
              rw [hQQ]
              exact W.zret (v := (1 : Int32)) hx hb hr rfl (fun t ht hW => ⟨⟨(1 : Int32), (), rfl, ⟨rfl, (by decide)⟩, by rw [ht]; exact hP9, va_K.moved hW.alike hK9, hD9⟩, hS.F ht⟩) hS.2.2 (zat zrX7_readLine_0_ok 60 rfl)
        refine lv_icmp_ge (tgt := 97) hx hb (zat zrX7_readLine_0_ok 47 rfl) (by decide) (fun c90 => ?_) (fun c90 => ?_)
        · have h := (if_pos c90).symm.trans h
          refine lv_iconst (v := 5) hx hb (zat zrX7_readLine_0_ok 50 rfl) (by decide) ?_
          exact J98 (5 : Int32) H _ ls h  hP hD hS (lv_sub hl [0, 1] rfl)
        · have h := (if_neg c90).symm.trans h
          refine lv_iconst (v := 0) hx hb (zat zrX7_readLine_0_ok 48 rfl) (by decide) ?_
          refine lv_goto (tgt := 98) hx hb (zat zrX7_readLine_0_ok 49 rfl) (by decide) ?_
          exact J98 (0 : Int32) H _ ls h  hP hD hS (lv_sub hl [0, 1] rfl)
    · have h := (if_neg c36).symm.trans h
      refine lv_aload_n hx hb (zat zrX7_readLine_0_ok 19 rfl) rfl (lv_at hl 0 rfl) ?_
      refine lv_aload_n hx hb (zat zrX7_readLine_0_ok 20 rfl) rfl (lv_at hl 1 rfl) ?_
      refine lv_aload_n hx hb (zat zrX7_readLine_0_ok 21 rfl) rfl (lv_at hl 1 rfl) ?_
      refine va_get (D := (dC, dI)) (ci := 4) (v := .int p_p.2.2.2.2.1) (C := RX6) (T := TX6) (N := 18) hx hb hts ifX7_readLine_X6 hown hK hP 0 rfl rfl 4 (by decide) (hts (.fieldLink RX7 69 "HookPier$Plan" "baits" "I") (List.mem_of_getElem? (i := 27) rfl)) (fun _ h9 => h9) rfl (zat zrX7_readLine_0_ok 22 rfl) ?_
      refine lv_iconst (v := 4) hx hb (zat zrX7_readLine_0_ok 23 rfl) (by decide) ?_
      have J54 : ∀ (v54_t2 : Int32) (H : Heap) (locs : List Loc) (ls : Array Slot), f_X7_readLine_J54 r_r p_p v54_t2 = some out → va_P (dC, dI) vwCl (bX6 a1 up kp p_p (bX7 a0 ur kr r_r [])) H → va_D A (bX6 a1 up kp p_p (bX7 a0 ur kr r_r [])) → va_S A s.heap H locs → lv_has ls 3 [(0, .ref a0), (1, .ref a1)] → W p l e (headSpec vfX7_readLine { frames := 8, cells := 0, slots := 0, locals := 172 }).room s m ([.ref a0, .ref a1]).toArray below meth c H locs 0 0 QQ (F0 m 54 ls [.int v54_t2, .ref a1, .ref a0]) := by
        intro v54_t2 H locs ls h  hP hD hS hl
        rw [f_X7_readLine_J54] at h
        obtain ⟨o54, eo54, h⟩ := bd_of h
        refine ck_i (wc := (bX7 a0 ur kr r_r (bX6 a1 up kp p_p []))) (wr := []) hP hD hK hS hA [10, 11, 12, 13, 0, 1, 2, 3, 4, 5, 6, 7, 8, 9] [] rfl rfl (by decide) (by decide) (by decide) (fun hPc hDc => (va_runV (As := [.ref a1, .int v54_t2]) (rest := []) ⟨hx, hb, hml, hown, hts⟩ (kfX7_opens l dC dI a0 a1 v54_t2 ur kr up kp r_r p_p H.size o54 eo54) (cwV 2 hts gfX7_readLine_2 rfl rfl rfl (by decide +kernel) ⟨(Nat.le_of_ble_eq_true rfl), (Nat.le_of_ble_eq_true rfl)⟩) (PV hPc (hK.sub (tys' := (tX7 kr (tX6 kp ([])))) [0, 1, 2, 3, 4, 5, 6, 7, 8, 9, 10, 11] rfl) hDc hN 0 rfl rfl) rfl rfl hl.1 rfl (lv_room (Nat.le_of_ble_eq_true rfl)) (zat zrX7_readLine_0_ok 28 rfl) ⟨(Nat.le_of_ble_eq_true rfl), (Nat.le_of_ble_eq_true rfl)⟩)) (fun r54 _ H locs hw hP hD _ hS => ?_)
        obtain ⟨hw, br54⟩ := hw
        obtain rfl := hw
        obtain ⟨hP, hD⟩ := pd_mk (bX7 a0 ur kr o54.2 (bX6 a1 up kp p_p [])) hP hD
        refine lv_if_eq (tgt := 72) hx hb (zat zrX7_readLine_0_ok 29 rfl) (by decide) (fun c57 => ?_) (fun c57 => ?_)
        · have h := (if_pos c57).symm.trans h
          refine lv_iconst (v := 0) hx hb (zat zrX7_readLine_0_ok 36 rfl) (by decide) ?_
          obtain rfl := Option.some.inj h
          obtain ⟨hP9, hD9⟩ := pd_sub (bX7 a0 ur kr o54.2 (bX6 a1 up kp p_p [])) [0, 1, 2, 3, 4, 5, 6, 7, 8, 9, 10, 11, 12, 13] hP hD (by decide) rfl
          have hK9 := hK.sub (tys' := []) [] rfl
          rw [hQQ]
          exact W.zret (v := (0 : Int32)) hx hb hr rfl (fun t ht hW => ⟨⟨(0 : Int32), (), rfl, ⟨rfl, (by decide)⟩, by rw [ht]; exact hP9, va_K.moved hW.alike hK9, hD9⟩, hS.F ht⟩) hS.2.2 (zat zrX7_readLine_0_ok 37 rfl)
        · have h := (if_neg c57).symm.trans h
          refine lv_aload_n hx hb (zat zrX7_readLine_0_ok 30 rfl) rfl (lv_at hl 0 rfl) ?_
          refine lv_aload_n hx hb (zat zrX7_readLine_0_ok 31 rfl) rfl (lv_at hl 1 rfl) ?_
          obtain ⟨o62, eo62, h⟩ := bd_of h
          refine ck_i (wc := (bX7 a0 ur kr o54.2 (bX6 a1 up kp p_p []))) (wr := []) hP hD hK hS hA [0, 1, 2, 3, 4, 5, 6, 7, 8, 9, 10, 11, 12, 13] [] rfl rfl (by decide) (by decide) (by decide) (fun hPc hDc => (va_runV (As := [.ref a1]) (rest := []) ⟨hx, hb, hml, hown, hts⟩ (kfX7_readBait l dC dI a0 a1 ur kr up kp o54.2 p_p H.size B o62 eo62) (cwV 1 hts gfX7_readLine_7 rfl rfl rfl (by decide +kernel) ⟨(Nat.le_of_ble_eq_true rfl), (Nat.le_of_ble_eq_true rfl)⟩) (PVF hPc (hK.sub (tys' := (tX7 kr (tX6 kp ([])))) [0, 1, 2, 3, 4, 5, 6, 7, 8, 9, 10, 11] rfl) hDc hN hS hB hE S1n 0 rfl rfl) rfl rfl hl.1 rfl (lv_room (Nat.le_of_ble_eq_true rfl)) (zat zrX7_readLine_0_ok 32 rfl) ⟨(Nat.le_of_ble_eq_true rfl), (Nat.le_of_ble_eq_true rfl)⟩)) (fun r62 _ H locs hw hP hD _ hS => ?_)
          obtain ⟨hw, br62⟩ := hw
          obtain rfl := hw
          obtain ⟨hP, hD⟩ := pd_mk (bX7 a0 ur kr o62.2.1 (bX6 a1 up kp o62.2.2 [])) hP hD
          refine lv_if_eq (tgt := 72) hx hb (zat zrX7_readLine_0_ok 33 rfl) (by decide) (fun c65 => ?_) (fun c65 => ?_)
          · have h := (if_pos c65).symm.trans h
            refine lv_iconst (v := 0) hx hb (zat zrX7_readLine_0_ok 36 rfl) (by decide) ?_
            obtain rfl := Option.some.inj h
            obtain ⟨hP9, hD9⟩ := pd_sub (bX7 a0 ur kr o62.2.1 (bX6 a1 up kp o62.2.2 [])) [0, 1, 2, 3, 4, 5, 6, 7, 8, 9, 10, 11, 12, 13] hP hD (by decide) rfl
            have hK9 := hK.sub (tys' := []) [] rfl
            rw [hQQ]
            exact W.zret (v := (0 : Int32)) hx hb hr rfl (fun t ht hW => ⟨⟨(0 : Int32), (), rfl, ⟨rfl, (by decide)⟩, by rw [ht]; exact hP9, va_K.moved hW.alike hK9, hD9⟩, hS.F ht⟩) hS.2.2 (zat zrX7_readLine_0_ok 37 rfl)
          · have h := (if_neg c65).symm.trans h
            refine lv_iconst (v := 1) hx hb (zat zrX7_readLine_0_ok 34 rfl) (by decide) ?_
            refine lv_goto (tgt := 73) hx hb (zat zrX7_readLine_0_ok 35 rfl) (by decide) ?_
            obtain rfl := Option.some.inj h
            obtain ⟨hP9, hD9⟩ := pd_sub (bX7 a0 ur kr o62.2.1 (bX6 a1 up kp o62.2.2 [])) [0, 1, 2, 3, 4, 5, 6, 7, 8, 9, 10, 11, 12, 13] hP hD (by decide) rfl
            have hK9 := hK.sub (tys' := []) [] rfl
            rw [hQQ]
            exact W.zret (v := (1 : Int32)) hx hb hr rfl (fun t ht hW => ⟨⟨(1 : Int32), (), rfl, ⟨rfl, (by decide)⟩, by rw [ht]; exact hP9, va_K.moved hW.alike hK9, hD9⟩, hS.F ht⟩) hS.2.2 (zat zrX7_readLine_0_ok 37 rfl)
      refine lv_icmp_ge (tgt := 53) hx hb (zat zrX7_readLine_0_ok 24 rfl) (by decide) (fun c46 => ?_) (fun c46 => ?_)
      · have h := (if_pos c46).symm.trans h
        refine lv_iconst (v := 5) hx hb (zat zrX7_readLine_0_ok 27 rfl) (by decide) ?_
        exact J54 (5 : Int32) H _ ls h  hP hD hS (lv_sub hl [0, 1] rfl)
      · have h := (if_neg c46).symm.trans h
        refine lv_iconst (v := 0) hx hb (zat zrX7_readLine_0_ok 25 rfl) (by decide) ?_
        refine lv_goto (tgt := 54) hx hb (zat zrX7_readLine_0_ok 26 rfl) (by decide) ?_
        exact J54 (0 : Int32) H _ ls h  hP hD hS (lv_sub hl [0, 1] rfl)
  · have h := (if_neg c6).symm.trans h
    refine lv_aload_n hx hb (zat zrX7_readLine_0_ok 4 rfl) rfl (lv_at hl 1 rfl) ?_
    refine va_get (D := (dC, dI)) (ci := 4) (v := .int p_p.1) (C := RX6) (T := TX6) (N := 18) hx hb hts ifX7_readLine_X6 hown hK hP 0 rfl rfl 0 (by decide) (hts (.fieldLink RX7 82 "HookPier$Plan" "spots" "I") (List.mem_of_getElem? (i := 31) rfl)) (fun _ h9 => h9) rfl (zat zrX7_readLine_0_ok 5 rfl) ?_
    refine lv_if_ne (tgt := 24) hx hb (zat zrX7_readLine_0_ok 6 rfl) (by decide) (fun c13 => ?_) (fun c13 => ?_)
    · have h := (if_neg c13).symm.trans h
      refine lv_aload_n hx hb (zat zrX7_readLine_0_ok 11 rfl) rfl (lv_at hl 0 rfl) ?_
      refine lv_iconst (v := 3) hx hb (zat zrX7_readLine_0_ok 12 rfl) (by decide) ?_
      obtain ⟨o26, eo26⟩ : ∃ o, o = f_X7_fail (3 : Int32) r_r := ⟨_, rfl⟩
      have h := nm_of h o26 eo26
      refine ck_i (wc := (bX7 a0 ur kr r_r [])) (wr := (bX6 a1 up kp p_p [])) hP hD hK hS hA [10, 11, 12, 13] [0, 1, 2, 3, 4, 5, 6, 7, 8, 9] rfl rfl (by decide) (by decide) (by decide) (fun hPc hDc => (va_runV (As := [.int 3]) (rest := []) ⟨hx, hb, hml, hown, hts⟩ (kfX7_fail l dC dI a0 (3 : Int32) ur kr r_r H.size o26 eo26.symm) (cwV 1 hts gfX7_readLine_1 rfl rfl rfl (by decide +kernel) ⟨(Nat.le_of_ble_eq_true rfl), (Nat.le_of_ble_eq_true rfl)⟩) (PV hPc (hK.sub (tys' := (tX7 kr ([]))) [0, 1, 2] rfl) hDc hN 0 rfl rfl) rfl rfl hl.1 rfl (lv_room (Nat.le_of_ble_eq_true rfl)) (zat zrX7_readLine_0_ok 13 rfl) ⟨(Nat.le_of_ble_eq_true rfl), (Nat.le_of_ble_eq_true rfl)⟩)) (fun r26 _ H locs hw hP hD _ hS => ?_)
      obtain ⟨hw, br26⟩ := hw
      obtain rfl := hw
      obtain ⟨hP, hD⟩ := pd_mk (bX6 a1 up kp p_p (bX7 a0 ur kr o26 [])) hP hD
      obtain rfl := Option.some.inj h
      obtain ⟨hP9, hD9⟩ := pd_sub (bX7 a0 ur kr o26 (bX6 a1 up kp p_p [])) [10, 11, 12, 13, 0, 1, 2, 3, 4, 5, 6, 7, 8, 9] hP hD (by decide) rfl
      have hK9 := hK.sub (tys' := []) [] rfl
      rw [hQQ]
      exact W.zret (v := (0 : Int32)) hx hb hr rfl (fun t ht hW => ⟨⟨(0 : Int32), (), rfl, ⟨rfl, (by decide)⟩, by rw [ht]; exact hP9, va_K.moved hW.alike hK9, hD9⟩, hS.F ht⟩) hS.2.2 (zat zrX7_readLine_0_ok 14 rfl)
    · have h := (if_pos c13).symm.trans h
      refine lv_aload_n hx hb (zat zrX7_readLine_0_ok 7 rfl) rfl (lv_at hl 0 rfl) ?_
      refine lv_aload_n hx hb (zat zrX7_readLine_0_ok 8 rfl) rfl (lv_at hl 1 rfl) ?_
      obtain ⟨o18, eo18, h⟩ := bd_of h
      refine ck_i (wc := (bX7 a0 ur kr r_r (bX6 a1 up kp p_p []))) (wr := []) hP hD hK hS hA [10, 11, 12, 13, 0, 1, 2, 3, 4, 5, 6, 7, 8, 9] [] rfl rfl (by decide) (by decide) (by decide) (fun hPc hDc => (va_runV (As := [.ref a1]) (rest := []) ⟨hx, hb, hml, hown, hts⟩ (kfX7_readPier l dC dI a0 a1 ur kr up kp r_r p_p H.size B o18 eo18) (cwV 1 hts gfX7_readLine_8 rfl rfl rfl (by decide +kernel) ⟨(Nat.le_of_ble_eq_true rfl), (Nat.le_of_ble_eq_true rfl)⟩) (PVF hPc (hK.sub (tys' := (tX7 kr (tX6 kp ([])))) [0, 1, 2, 3, 4, 5, 6, 7, 8, 9, 10, 11] rfl) hDc hN hS hB hE S1n 0 rfl rfl) rfl rfl hl.1 rfl (lv_room (Nat.le_of_ble_eq_true rfl)) (zat zrX7_readLine_0_ok 9 rfl) ⟨(Nat.le_of_ble_eq_true rfl), (Nat.le_of_ble_eq_true rfl)⟩)) (fun r18 _ H locs hw hP hD _ hS => ?_)
      obtain ⟨hw, br18⟩ := hw
      obtain rfl := hw
      obtain ⟨hP, hD⟩ := pd_mk (bX7 a0 ur kr o18.2.1 (bX6 a1 up kp o18.2.2 [])) hP hD
      refine lv_goto (tgt := 29) hx hb (zat zrX7_readLine_0_ok 10 rfl) (by decide) ?_
      obtain rfl := Option.some.inj h
      obtain ⟨hP9, hD9⟩ := pd_sub (bX7 a0 ur kr o18.2.1 (bX6 a1 up kp o18.2.2 [])) [0, 1, 2, 3, 4, 5, 6, 7, 8, 9, 10, 11, 12, 13] hP hD (by decide) rfl
      have hK9 := hK.sub (tys' := []) [] rfl
      rw [hQQ]
      exact W.zret (v := o18.1) hx hb hr (narz br18) (fun t ht hW => ⟨⟨o18.1, (), rfl, ⟨rfl, br18⟩, by rw [ht]; exact hP9, va_K.moved hW.alike hK9, hD9⟩, hS.F ht⟩) hS.2.2 (zat zrX7_readLine_0_ok 14 rfl)
noncomputable def zrX6_clear_0 : List ZR := zc 0 true (.aload_n 0) 1 (zc 1 true (.iconst 0) 1 (zc 2 true (.putfield 9) 3 (zc 5 true (.aload_n 0) 1 (zc 6 true (.iconst 0) 1 (zc 7 true (.putfield 15) 3 (zc 10 true (.aload_n 0) 1 (zc 11 true (.iconst 0) 1 (zc 12 true (.putfield 24) 3 (zc 15 true (.aload_n 0) 1 (zc 16 true (.iconst 0) 1 (zc 17 true (.putfield 27) 3 (zc 20 true (.aload_n 0) 1 (zc 21 true (.iconst 0) 1 (zc 22 true (.putfield 30) 3 (zc 25 true (.aload_n 0) 1 (zc 26 true (.iconst 0) 1 (zc 27 true (.putfield 33) 3 (zc 30 true (.aload_n 0) 1 (zc 31 true (.iconst (-1)) 1 (zc 32 true (.putfield 36) 3 (zc 35 true (.return_) 1 ([]))))))))))))))))))))))
theorem zrX6_clear_0_ok : zck 0 ((zby cX6_clear).drop 0) zrX6_clear_0 = true := by decide +kernel
def vfX6_clear : List Cond := List.cons (.code yX6_clear cX6_clear 1 none) (apW [.fieldLink RX6 9 "HookPier$Plan" "spots" "I", .fieldLink RX6 15 "HookPier$Plan" "deep" "I", .fieldLink RX6 24 "HookPier$Plan" "baits" "I", .fieldLink RX6 27 "HookPier$Plan" "askers" "I", .fieldLink RX6 30 "HookPier$Plan" "answers" "I", .fieldLink RX6 33 "HookPier$Plan" "bites" "I", .fieldLink RX6 36 "HookPier$Plan" "darkHunger" "I"] (wsX60))
theorem ifX6_clear_X6 : ∀ w ∈ wsX60, w ∈ vfX6_clear := fun _ h => (List.mem_cons_of_mem _ (List.mem_append_right _ h))
theorem qfX6_clear : Good vfX6_clear := gd_cons (by decide +kernel) (gd_app (gd_dec (by decide +kernel) : Good [.fieldLink RX6 9 "HookPier$Plan" "spots" "I", .fieldLink RX6 15 "HookPier$Plan" "deep" "I", .fieldLink RX6 24 "HookPier$Plan" "baits" "I", .fieldLink RX6 27 "HookPier$Plan" "askers" "I", .fieldLink RX6 30 "HookPier$Plan" "answers" "I", .fieldLink RX6 33 "HookPier$Plan" "bites" "I", .fieldLink RX6 36 "HookPier$Plan" "darkHunger" "I"]) qsX6)
set_option maxHeartbeats 2000000 in
set_option maxRecDepth 100000 in
theorem kfX6_clear (l : Launch) (dC : Nat → ClassId) (dI : Nat → Nat → Nat) (a0 : Nat) (up : Nat → Nat) (kp : Nat → ClassId) (p_p : TX6_p) (sz : Nat) (out : TX6_p) (h : f_X6_clear p_p = out) : KCv l yX6_clear vfX6_clear ({ frames := 0, cells := 0, slots := 0, locals := 0 }) (dC, dI) [.ref a0] sz (bX6 a0 up kp p_p []) (tX6 kp ([])) (fun _ => True) (bX6 a0 up kp out []) 0 0 := by
  refine Met.ofW (cc := cX6_clear) (maxL := 1) (ret := none) (by decide) rfl ?_
  intro p e s m args below meth c s₁ B0 hml hv
  obtain ⟨rfl, hsz, hP, hK, hD0, hN⟩ := hv
  have hx := B0.exec
  have hb := B0.bytes
  have hr := B0.returns
  have hts := atoms_spec (ws := vfX6_clear) B0.pre
  have hown : s.vm.findClass RX6 = some m.cls := findClass_of_methodNamed B0.named
  have hlocks := B0.notSynchronized
  subst hsz
  have hD := hD0.self (sz := s.heap.size)
  generalize hAe : va_A (bX6 a0 up kp p_p []) s.heap.size = A at hD ⊢
  have hA : ∀ q : Nat, s.heap.size ≤ q → A q := fun q h => by rw [← hAe]; exact Or.inr h
  have hS : va_S A s.heap s.heap [] := va_S.rf
  have hP : va_P (dC, dI) vwCl (bX6 a0 up kp p_p []) s.heap := hP
  have hl := lv_entry ([.ref a0]) (n := 1) (Nat.le_of_ble_eq_true rfl)
  rw [lg_entry_eq]
  generalize (lg_sl ([.ref a0]) ++ List.replicate (1 - (lg_sl ([.ref a0])).length) Slot.unset).toArray = ls at hl ⊢
  have hl : lv_has ls 1 [(0, .ref a0)] := hl
  refine W_q (fun QQ hQQ => ?_)
  rw [f_X6_clear] at h
  refine lv_aload_n hx hb (zat zrX6_clear_0_ok 0 rfl) rfl (lv_at hl 0 rfl) ?_
  refine lv_iconst (v := 0) hx hb (zat zrX6_clear_0_ok 1 rfl) (by decide) ?_
  refine va_put (D := (dC, dI)) (ci := 4) (v := .int 0) (ty := .int) (C := RX6) (T := TX6) (N := 18) hx hb hts ifX6_clear_X6 tyX6 tyX6_ok nmX6 hown hK hP hD hS 0 rfl rfl 0 (by decide) (hts (.fieldLink RX6 9 "HookPier$Plan" "spots" "I") (List.mem_of_getElem? (i := 1) rfl)) (fun _ h9 => h9) rfl (by decide +kernel) rfl rfl (Nat.le_of_ble_eq_true rfl) (zat zrX6_clear_0_ok 2 rfl) (fun H locs hP hD hS => ?_)
  obtain ⟨hP, hD⟩ := pd_mk (bX6 a0 up kp ((0 : Int32), p_p.2) []) hP hD
  refine lv_aload_n hx hb (zat zrX6_clear_0_ok 3 rfl) rfl (lv_at hl 0 rfl) ?_
  refine lv_iconst (v := 0) hx hb (zat zrX6_clear_0_ok 4 rfl) (by decide) ?_
  refine va_put (D := (dC, dI)) (ci := 4) (v := .int 0) (ty := .int) (C := RX6) (T := TX6) (N := 18) hx hb hts ifX6_clear_X6 tyX6 tyX6_ok nmX6 hown hK hP hD hS 0 rfl rfl 1 (by decide) (hts (.fieldLink RX6 15 "HookPier$Plan" "deep" "I") (List.mem_of_getElem? (i := 2) rfl)) (fun _ h9 => h9) rfl (by decide +kernel) rfl rfl (Nat.le_of_ble_eq_true rfl) (zat zrX6_clear_0_ok 5 rfl) (fun H locs hP hD hS => ?_)
  obtain ⟨hP, hD⟩ := pd_mk (bX6 a0 up kp ((0 : Int32), (0 : Int32), p_p.2.2) []) hP hD
  refine lv_aload_n hx hb (zat zrX6_clear_0_ok 6 rfl) rfl (lv_at hl 0 rfl) ?_
  refine lv_iconst (v := 0) hx hb (zat zrX6_clear_0_ok 7 rfl) (by decide) ?_
  refine va_put (D := (dC, dI)) (ci := 4) (v := .int 0) (ty := .int) (C := RX6) (T := TX6) (N := 18) hx hb hts ifX6_clear_X6 tyX6 tyX6_ok nmX6 hown hK hP hD hS 0 rfl rfl 4 (by decide) (hts (.fieldLink RX6 24 "HookPier$Plan" "baits" "I") (List.mem_of_getElem? (i := 3) rfl)) (fun _ h9 => h9) rfl (by decide +kernel) rfl rfl (Nat.le_of_ble_eq_true rfl) (zat zrX6_clear_0_ok 8 rfl) (fun H locs hP hD hS => ?_)
  obtain ⟨hP, hD⟩ := pd_mk (bX6 a0 up kp ((0 : Int32), (0 : Int32), p_p.2.2.1, p_p.2.2.2.1, (0 : Int32), p_p.2.2.2.2.2) []) hP hD
  refine lv_aload_n hx hb (zat zrX6_clear_0_ok 9 rfl) rfl (lv_at hl 0 rfl) ?_
  refine lv_iconst (v := 0) hx hb (zat zrX6_clear_0_ok 10 rfl) (by decide) ?_
  refine va_put (D := (dC, dI)) (ci := 4) (v := .int 0) (ty := .int) (C := RX6) (T := TX6) (N := 18) hx hb hts ifX6_clear_X6 tyX6 tyX6_ok nmX6 hown hK hP hD hS 0 rfl rfl 5 (by decide) (hts (.fieldLink RX6 27 "HookPier$Plan" "askers" "I") (List.mem_of_getElem? (i := 4) rfl)) (fun _ h9 => h9) rfl (by decide +kernel) rfl rfl (Nat.le_of_ble_eq_true rfl) (zat zrX6_clear_0_ok 11 rfl) (fun H locs hP hD hS => ?_)
  obtain ⟨hP, hD⟩ := pd_mk (bX6 a0 up kp ((0 : Int32), (0 : Int32), p_p.2.2.1, p_p.2.2.2.1, (0 : Int32), (0 : Int32), p_p.2.2.2.2.2.2) []) hP hD
  refine lv_aload_n hx hb (zat zrX6_clear_0_ok 12 rfl) rfl (lv_at hl 0 rfl) ?_
  refine lv_iconst (v := 0) hx hb (zat zrX6_clear_0_ok 13 rfl) (by decide) ?_
  refine va_put (D := (dC, dI)) (ci := 4) (v := .int 0) (ty := .int) (C := RX6) (T := TX6) (N := 18) hx hb hts ifX6_clear_X6 tyX6 tyX6_ok nmX6 hown hK hP hD hS 0 rfl rfl 6 (by decide) (hts (.fieldLink RX6 30 "HookPier$Plan" "answers" "I") (List.mem_of_getElem? (i := 5) rfl)) (fun _ h9 => h9) rfl (by decide +kernel) rfl rfl (Nat.le_of_ble_eq_true rfl) (zat zrX6_clear_0_ok 14 rfl) (fun H locs hP hD hS => ?_)
  obtain ⟨hP, hD⟩ := pd_mk (bX6 a0 up kp ((0 : Int32), (0 : Int32), p_p.2.2.1, p_p.2.2.2.1, (0 : Int32), (0 : Int32), (0 : Int32), p_p.2.2.2.2.2.2.2) []) hP hD
  refine lv_aload_n hx hb (zat zrX6_clear_0_ok 15 rfl) rfl (lv_at hl 0 rfl) ?_
  refine lv_iconst (v := 0) hx hb (zat zrX6_clear_0_ok 16 rfl) (by decide) ?_
  refine va_put (D := (dC, dI)) (ci := 4) (v := .int 0) (ty := .int) (C := RX6) (T := TX6) (N := 18) hx hb hts ifX6_clear_X6 tyX6 tyX6_ok nmX6 hown hK hP hD hS 0 rfl rfl 7 (by decide) (hts (.fieldLink RX6 33 "HookPier$Plan" "bites" "I") (List.mem_of_getElem? (i := 6) rfl)) (fun _ h9 => h9) rfl (by decide +kernel) rfl rfl (Nat.le_of_ble_eq_true rfl) (zat zrX6_clear_0_ok 17 rfl) (fun H locs hP hD hS => ?_)
  obtain ⟨hP, hD⟩ := pd_mk (bX6 a0 up kp ((0 : Int32), (0 : Int32), p_p.2.2.1, p_p.2.2.2.1, (0 : Int32), (0 : Int32), (0 : Int32), (0 : Int32), p_p.2.2.2.2.2.2.2.2) []) hP hD
  refine lv_aload_n hx hb (zat zrX6_clear_0_ok 18 rfl) rfl (lv_at hl 0 rfl) ?_
  refine lv_iconst (v := (-1)) hx hb (zat zrX6_clear_0_ok 19 rfl) (by decide) ?_
  refine va_put (D := (dC, dI)) (ci := 4) (v := .int (-1)) (ty := .int) (C := RX6) (T := TX6) (N := 18) hx hb hts ifX6_clear_X6 tyX6 tyX6_ok nmX6 hown hK hP hD hS 0 rfl rfl 8 (by decide) (hts (.fieldLink RX6 36 "HookPier$Plan" "darkHunger" "I") (List.mem_of_getElem? (i := 7) rfl)) (fun _ h9 => h9) rfl (by decide +kernel) rfl rfl (Nat.le_of_ble_eq_true rfl) (zat zrX6_clear_0_ok 20 rfl) (fun H locs hP hD hS => ?_)
  obtain ⟨hP, hD⟩ := pd_mk (bX6 a0 up kp ((0 : Int32), (0 : Int32), p_p.2.2.1, p_p.2.2.2.1, (0 : Int32), (0 : Int32), (0 : Int32), (0 : Int32), (-1 : Int32), p_p.2.2.2.2.2.2.2.2.2) []) hP hD
  obtain rfl := h
  obtain ⟨hP9, hD9⟩ := pd_sub (bX6 a0 up kp ((0 : Int32), (0 : Int32), p_p.2.2.1, p_p.2.2.2.1, (0 : Int32), (0 : Int32), (0 : Int32), (0 : Int32), (-1 : Int32), p_p.2.2.2.2.2.2.2.2.2) []) [0, 1, 2, 3, 4, 5, 6, 7, 8, 9] hP hD (by decide) rfl
  have hK9 := hK.sub (tys' := []) [] rfl
  rw [hQQ]
  exact W.vret hx hb hr (fun t ht hW => ⟨⟨(), rfl, trivial, by rw [ht]; exact hP9, va_K.moved hW.alike hK9, hD9⟩, hS.F ht⟩) hS.2.2 (zat zrX6_clear_0_ok 21 rfl)
noncomputable def zrX7_read_0 : List ZR := zc 0 true (.aload_n 0) 1 (zc 1 true (.iload_n 1) 1 (zc 2 true (.aload_n 0) 1 (zc 3 true (.getfield 15) 3 (zc 6 true (.invokestatic 51) 3 (zc 9 true (.putfield 19) 3 (zc 12 true (.aload_n 0) 1 (zc 13 true (.iconst 0) 1 (zc 14 true (.putfield 15) 3 (zc 17 true (.aload_n 0) 1 (zc 18 true (.iconst 0) 1 (zc 19 true (.putfield 28) 3 (zc 22 true (.aload_n 0) 1 (zc 23 true (.iconst 0) 1 (zc 24 true (.putfield 42) 3 (zc 27 true (.aload_n 0) 1 (zc 28 true (.iconst 0) 1 (zc 29 true (.putfield 45) 3 (zc 32 true (.aload_n 0) 1 (zc 33 true (.iconst (-1)) 1 (zc 34 true (.putfield 48) 3 (zc 37 true (.aload_n 2) 1 (zc 38 true (.invokevirtual 57) 3 (zc 41 true (.aload_n 0) 1 (zc 42 true (.invokevirtual 62) 3 (zc 45 true (.iconst 0) 1 (zc 46 true (.istore_n 3) 1 (zc 47 true (.iload_n 3) 1 (zc 48 true (.aload_n 0) 1 (zc 49 true (.getfield 19) 3 (zc 52 true (.if_icmp .gt 66) 3 (zc 55 true (.aload_n 0) 1 (zc 56 true (.aload_n 2) 1 (zc 57 true (.invokevirtual 65) 3 (zc 60 true (.ifCond .ne 5) 3 (zc 63 true (.iconst 0) 1 (zc 64 true (.ireturn) 1 (zc 65 true (.aload_n 0) 1 (zc 66 true (.getfield 22) 3 (zc 69 true (.ifCond .ne 25) 3 (zc 72 true (.aload_n 2) 1 (zc 73 true (.getfield 69) 3 (zc 76 true (.ifCond .gt 12) 3 (zc 79 true (.aload_n 0) 1 (zc 80 true (.bipush 6) 2 (zc 82 true (.invokevirtual 72) 3 (zc 85 true (.ifCond .eq 7) 3 (zc 88 true (.iconst 1) 1 (zc 89 true (.goto 4) 3 (zc 92 true (.iconst 0) 1 (zc 93 true (.ireturn) 1 (zc 94 true (.aload_n 0) 1 (zc 95 true (.getfield 22) 3 (zc 98 true (.iconst 3) 1 (zc 99 true (.if_icmp .eq 9) 3 (zc 102 true (.aload_n 0) 1 (zc 103 true (.iconst 1) 1 (zc 104 true (.invokevirtual 72) 3 (zc 107 true (.ireturn) 1 (zc 108 true (.aload_n 0) 1 (zc 109 true (.invokevirtual 62) 3 (zc 112 true (.iinc 3 1) 3 (zc 115 true (.goto (-68)) 3 (zc 118 true (.aload_n 0) 1 ([]))))))))))))))))))))))))))))))))))))))))))))))))))))))))))))))))
theorem zrX7_read_0_ok : zck 0 ((zby cX7_read).drop 0) zrX7_read_0 = true := by decide +kernel
noncomputable def zrX7_read_1 : List ZR := zc 119 true (.iconst 1) 1 (zc 120 true (.invokevirtual 72) 3 (zc 123 true (.ireturn) 1 ([])))
theorem zrX7_read_1_ok : zck 119 ((zby cX7_read).drop 119) zrX7_read_1 = true := by decide +kernel
def vfX7_read : List Cond := List.cons (.code yX7_read cX7_read 4 (some .boolean)) (apW [.fieldLink RX7 15 "HookPier$Reader" "fed" "I", .methodLink RX7 51 Lib.Math.min.name, .static Lib.Math.min.name, .initialized "java/lang/Math", .code Lib.Math.min.name Lib.Math.min.code 2 (some .int), .fieldLink RX7 19 "HookPier$Reader" "end" "I", .fieldLink RX7 28 "HookPier$Reader" "behind" "I", .fieldLink RX7 42 "HookPier$Reader" "names" "I", .fieldLink RX7 45 "HookPier$Reader" "fault" "I", .fieldLink RX7 48 "HookPier$Reader" "place" "I", .methodLink RX7 57 yX6_clear, .instanceMethod yX6_clear, .selects RX6 yX6_clear yX6_clear, .initialized RX6, .methodLink RX7 62 yX7_advance, .instanceMethod yX7_advance, .selects RX7 yX7_advance yX7_advance, .initialized RX7, .methodLink RX7 72 yX7_fail, .instanceMethod yX7_fail, .selects RX7 yX7_fail yX7_fail, .methodLink RX7 65 yX7_readLine, .instanceMethod yX7_readLine, .selects RX7 yX7_readLine yX7_readLine, .fieldLink RX7 22 "HookPier$Reader" "token" "I", .fieldLink RX7 69 "HookPier$Plan" "baits" "I"] (apW wsX70 (apW wsX60 (apW vfX6_clear (apW vfX7_advance (apW vfX7_fail (vfX7_readLine)))))))
theorem ifX7_read_X7 : ∀ w ∈ wsX70, w ∈ vfX7_read := fun _ h => (List.mem_cons_of_mem _ (List.mem_append_right _ (List.mem_append_left _ h)))
theorem ifX7_read_X6 : ∀ w ∈ wsX60, w ∈ vfX7_read := fun _ h => (List.mem_cons_of_mem _ (List.mem_append_right _ (List.mem_append_right _ (List.mem_append_left _ h))))
theorem qfX7_read : Good vfX7_read := gd_cons (by decide +kernel) (gd_app (gd_dec (by decide +kernel) : Good [.fieldLink RX7 15 "HookPier$Reader" "fed" "I", .methodLink RX7 51 Lib.Math.min.name, .static Lib.Math.min.name, .initialized "java/lang/Math", .code Lib.Math.min.name Lib.Math.min.code 2 (some .int), .fieldLink RX7 19 "HookPier$Reader" "end" "I", .fieldLink RX7 28 "HookPier$Reader" "behind" "I", .fieldLink RX7 42 "HookPier$Reader" "names" "I", .fieldLink RX7 45 "HookPier$Reader" "fault" "I", .fieldLink RX7 48 "HookPier$Reader" "place" "I", .methodLink RX7 57 yX6_clear, .instanceMethod yX6_clear, .selects RX6 yX6_clear yX6_clear, .initialized RX6, .methodLink RX7 62 yX7_advance, .instanceMethod yX7_advance, .selects RX7 yX7_advance yX7_advance, .initialized RX7, .methodLink RX7 72 yX7_fail, .instanceMethod yX7_fail, .selects RX7 yX7_fail yX7_fail, .methodLink RX7 65 yX7_readLine, .instanceMethod yX7_readLine, .selects RX7 yX7_readLine yX7_readLine, .fieldLink RX7 22 "HookPier$Reader" "token" "I", .fieldLink RX7 69 "HookPier$Plan" "baits" "I"]) (gd_app qsX7 (gd_app qsX6 (gd_app qfX6_clear (gd_app qfX7_advance (gd_app qfX7_fail qfX7_readLine))))))
theorem gfX7_read_0 : GoodIn vfX7_read (wsV RX7 57 RX6 yX6_clear vfX6_clear) := goodIn_app (goodIn_r [.methodLink RX7 57 yX6_clear, .instanceMethod yX6_clear, .selects RX6 yX6_clear yX6_clear, .initialized RX6] [11, 12, 13, 14] rfl (by decide +kernel)) (goodIn_m (fun _ h => (List.mem_cons_of_mem _ (List.mem_append_right _ (List.mem_append_right _ (List.mem_append_right _ (List.mem_append_left _ h)))))) qfX6_clear)
theorem gfX7_read_1 : GoodIn vfX7_read (wsV RX7 62 RX7 yX7_advance vfX7_advance) := goodIn_app (goodIn_r [.methodLink RX7 62 yX7_advance, .instanceMethod yX7_advance, .selects RX7 yX7_advance yX7_advance, .initialized RX7] [15, 16, 17, 18] rfl (by decide +kernel)) (goodIn_m (fun _ h => (List.mem_cons_of_mem _ (List.mem_append_right _ (List.mem_append_right _ (List.mem_append_right _ (List.mem_append_right _ (List.mem_append_left _ h))))))) qfX7_advance)
theorem gfX7_read_2 : GoodIn vfX7_read (wsV RX7 72 RX7 yX7_fail vfX7_fail) := goodIn_app (goodIn_r [.methodLink RX7 72 yX7_fail, .instanceMethod yX7_fail, .selects RX7 yX7_fail yX7_fail, .initialized RX7] [19, 20, 21, 18] rfl (by decide +kernel)) (goodIn_m (fun _ h => (List.mem_cons_of_mem _ (List.mem_append_right _ (List.mem_append_right _ (List.mem_append_right _ (List.mem_append_right _ (List.mem_append_right _ (List.mem_append_left _ h)))))))) qfX7_fail)
theorem gfX7_read_3 : GoodIn vfX7_read (wsV RX7 65 RX7 yX7_readLine vfX7_readLine) := goodIn_app (goodIn_r [.methodLink RX7 65 yX7_readLine, .instanceMethod yX7_readLine, .selects RX7 yX7_readLine yX7_readLine, .initialized RX7] [22, 23, 24, 18] rfl (by decide +kernel)) (goodIn_m (fun _ h => (List.mem_cons_of_mem _ (List.mem_append_right _ (List.mem_append_right _ (List.mem_append_right _ (List.mem_append_right _ (List.mem_append_right _ (List.mem_append_right _ h)))))))) qfX7_readLine)
set_option maxHeartbeats 2000000 in
set_option maxRecDepth 100000 in
theorem kfX7_read (l : Launch) (dC : Nat → ClassId) (dI : Nat → Nat → Nat) (a0 : Nat) (k1 : Int32) (a2 : Nat) (ur : Nat → Nat) (kr : Nat → ClassId) (up : Nat → Nat) (kp : Nat → ClassId) (r_r : TX7_r) (p_p : TX6_p) (sz : Nat) (B : Nat) (out : (Int32 × TX7_r × TX6_p)) (h : f_X7_read k1 r_r p_p = some out) : Met l yX7_read vfX7_read ({ frames := 9, cells := 0, slots := 0, locals := 194 }) (PF (dC, dI) B [.ref a0, .int k1, .ref a2] sz (bX7 a0 ur kr r_r (bX6 a2 up kp p_p [])) (tX7 kr (tX6 kp ([]))) []) (va_Qi (S := Unit) (fun (r : Int32) _ => r = out.1 ∧ (0 ≤ r.toInt ∧ r.toInt ≤ 1)) (fun _ t => BC (dC, dI) (va_A (bX7 a0 ur kr r_r (bX6 a2 up kp p_p [])) sz) (bX7 a0 ur kr out.2.1 (bX6 a2 up kp out.2.2 [])) [] t) (va_A (bX7 a0 ur kr r_r (bX6 a2 up kp p_p [])) sz)) 0 0 (va_A (bX7 a0 ur kr r_r (bX6 a2 up kp p_p [])) sz) := by
  refine Met.ofW (cc := cX7_read) (maxL := 4) (ret := (some .boolean)) (by decide) rfl ?_
  intro p e s m args below meth c s₁ B0 hml hv
  obtain ⟨rfl, hsz, hP, hK, hD0, hN, hBs, hE, hX⟩ := hv
  have hBA := PF_reg hD0 hBs
  have hx := B0.exec
  have hb := B0.bytes
  have hr := B0.returns
  have hts := atoms_spec (ws := vfX7_read) B0.pre
  have hown : s.vm.findClass RX7 = some m.cls := findClass_of_methodNamed B0.named
  have hlocks := B0.notSynchronized
  subst hsz
  have hD := hD0.self (sz := s.heap.size)
  generalize hAe : va_A (bX7 a0 ur kr r_r (bX6 a2 up kp p_p [])) s.heap.size = A at hD hBA ⊢
  have hA : ∀ q : Nat, s.heap.size ≤ q → A q := fun q h => by rw [← hAe]; exact Or.inr h
  have hS : va_S A s.heap s.heap [] := va_S.rf
  have hP : va_P (dC, dI) vwCl (bX7 a0 ur kr r_r (bX6 a2 up kp p_p [])) s.heap := hP
  have hl := lv_entry ([.ref a0, .int k1, .ref a2]) (n := 4) (Nat.le_of_ble_eq_true rfl)
  rw [lg_entry_eq]
  generalize (lg_sl ([.ref a0, .int k1, .ref a2]) ++ List.replicate (4 - (lg_sl ([.ref a0, .int k1, .ref a2])).length) Slot.unset).toArray = ls at hl ⊢
  have hl : lv_has ls 4 [(0, .ref a0), (1, .int k1), (2, .ref a2)] := hl
  have hB : RB B s A := ⟨hBA, hBs⟩
  refine W_q (fun QQ hQQ => ?_)
  rw [f_X7_read] at h
  refine lv_aload_n hx hb (zat zrX7_read_0_ok 0 rfl) rfl (lv_at hl 0 rfl) ?_
  refine lv_iload_n hx hb (zat zrX7_read_0_ok 1 rfl) rfl (lv_at hl 1 rfl) ?_
  refine lv_aload_n hx hb (zat zrX7_read_0_ok 2 rfl) rfl (lv_at hl 0 rfl) ?_
  refine va_get (D := (dC, dI)) (ci := 5) (v := .int r_r.2.1) (C := RX7) (T := TX7) (N := 12) hx hb hts ifX7_read_X7 hown hK hP 0 rfl rfl 1 (by decide) (hts (.fieldLink RX7 15 "HookPier$Reader" "fed" "I") (List.mem_of_getElem? (i := 1) rfl)) (fun _ h9 => h9) rfl (zat zrX7_read_0_ok 3 rfl) ?_
  refine va_mmin hx hb (by rw [hml]; exact hl.1.symm) hown (hts (.methodLink RX7 51 Lib.Math.min.name) (List.mem_of_getElem? (i := 2) rfl)) (hts (.static Lib.Math.min.name) (List.mem_of_getElem? (i := 3) rfl)) (hts (.initialized "java/lang/Math") (List.mem_of_getElem? (i := 4) rfl)) (hts (.code Lib.Math.min.name Lib.Math.min.code 2 (some .int)) (List.mem_of_getElem? (i := 5) rfl)) (Nat.le_of_ble_eq_true rfl) (Nat.le_of_ble_eq_true rfl) (Nat.le_of_ble_eq_true rfl) (Nat.le_of_ble_eq_true rfl) (zat zrX7_read_0_ok 4 rfl) ?_
  refine lv_topi (fun z6 ez6 => ?_)
  have h := nm_of h z6 ez6
  refine va_put (D := (dC, dI)) (ci := 5) (v := .int z6) (ty := .int) (C := RX7) (T := TX7) (N := 12) hx hb hts ifX7_read_X7 tyX7 tyX7_ok nmX7 hown hK hP hD hS 0 rfl rfl 2 (by decide) (hts (.fieldLink RX7 19 "HookPier$Reader" "end" "I") (List.mem_of_getElem? (i := 6) rfl)) (fun _ h9 => h9) rfl (by decide +kernel) rfl rfl (Nat.le_of_ble_eq_true rfl) (zat zrX7_read_0_ok 5 rfl) (fun H locs hP hD hS => ?_)
  obtain ⟨hP, hD⟩ := pd_mk (bX7 a0 ur kr (r_r.1, r_r.2.1, z6, r_r.2.2.2) (bX6 a2 up kp p_p [])) hP hD
  refine lv_aload_n hx hb (zat zrX7_read_0_ok 6 rfl) rfl (lv_at hl 0 rfl) ?_
  refine lv_iconst (v := 0) hx hb (zat zrX7_read_0_ok 7 rfl) (by decide) ?_
  refine va_put (D := (dC, dI)) (ci := 5) (v := .int 0) (ty := .int) (C := RX7) (T := TX7) (N := 12) hx hb hts ifX7_read_X7 tyX7 tyX7_ok nmX7 hown hK hP hD hS 0 rfl rfl 1 (by decide) (hts (.fieldLink RX7 15 "HookPier$Reader" "fed" "I") (List.mem_of_getElem? (i := 1) rfl)) (fun _ h9 => h9) rfl (by decide +kernel) rfl rfl (Nat.le_of_ble_eq_true rfl) (zat zrX7_read_0_ok 8 rfl) (fun H locs hP hD hS => ?_)
  obtain ⟨hP, hD⟩ := pd_mk (bX7 a0 ur kr (r_r.1, (0 : Int32), z6, r_r.2.2.2) (bX6 a2 up kp p_p [])) hP hD
  refine lv_aload_n hx hb (zat zrX7_read_0_ok 9 rfl) rfl (lv_at hl 0 rfl) ?_
  refine lv_iconst (v := 0) hx hb (zat zrX7_read_0_ok 10 rfl) (by decide) ?_
  refine va_put (D := (dC, dI)) (ci := 5) (v := .int 0) (ty := .int) (C := RX7) (T := TX7) (N := 12) hx hb hts ifX7_read_X7 tyX7 tyX7_ok nmX7 hown hK hP hD hS 0 rfl rfl 5 (by decide) (hts (.fieldLink RX7 28 "HookPier$Reader" "behind" "I") (List.mem_of_getElem? (i := 7) rfl)) (fun _ h9 => h9) rfl (by decide +kernel) rfl rfl (Nat.le_of_ble_eq_true rfl) (zat zrX7_read_0_ok 11 rfl) (fun H locs hP hD hS => ?_)
  obtain ⟨hP, hD⟩ := pd_mk (bX7 a0 ur kr (r_r.1, (0 : Int32), z6, r_r.2.2.2.1, r_r.2.2.2.2.1, (0 : Int32), r_r.2.2.2.2.2.2) (bX6 a2 up kp p_p [])) hP hD
  refine lv_aload_n hx hb (zat zrX7_read_0_ok 12 rfl) rfl (lv_at hl 0 rfl) ?_
  refine lv_iconst (v := 0) hx hb (zat zrX7_read_0_ok 13 rfl) (by decide) ?_
  refine va_put (D := (dC, dI)) (ci := 5) (v := .int 0) (ty := .int) (C := RX7) (T := TX7) (N := 12) hx hb hts ifX7_read_X7 tyX7 tyX7_ok nmX7 hown hK hP hD hS 0 rfl rfl 9 (by decide) (hts (.fieldLink RX7 42 "HookPier$Reader" "names" "I") (List.mem_of_getElem? (i := 8) rfl)) (fun _ h9 => h9) rfl (by decide +kernel) rfl rfl (Nat.le_of_ble_eq_true rfl) (zat zrX7_read_0_ok 14 rfl) (fun H locs hP hD hS => ?_)
  obtain ⟨hP, hD⟩ := pd_mk (bX7 a0 ur kr (r_r.1, (0 : Int32), z6, r_r.2.2.2.1, r_r.2.2.2.2.1, (0 : Int32), r_r.2.2.2.2.2.2.1, r_r.2.2.2.2.2.2.2.1, r_r.2.2.2.2.2.2.2.2.1, (0 : Int32), r_r.2.2.2.2.2.2.2.2.2.2) (bX6 a2 up kp p_p [])) hP hD
  refine lv_aload_n hx hb (zat zrX7_read_0_ok 15 rfl) rfl (lv_at hl 0 rfl) ?_
  refine lv_iconst (v := 0) hx hb (zat zrX7_read_0_ok 16 rfl) (by decide) ?_
  refine va_put (D := (dC, dI)) (ci := 5) (v := .int 0) (ty := .int) (C := RX7) (T := TX7) (N := 12) hx hb hts ifX7_read_X7 tyX7 tyX7_ok nmX7 hown hK hP hD hS 0 rfl rfl 10 (by decide) (hts (.fieldLink RX7 45 "HookPier$Reader" "fault" "I") (List.mem_of_getElem? (i := 9) rfl)) (fun _ h9 => h9) rfl (by decide +kernel) rfl rfl (Nat.le_of_ble_eq_true rfl) (zat zrX7_read_0_ok 17 rfl) (fun H locs hP hD hS => ?_)
  obtain ⟨hP, hD⟩ := pd_mk (bX7 a0 ur kr (r_r.1, (0 : Int32), z6, r_r.2.2.2.1, r_r.2.2.2.2.1, (0 : Int32), r_r.2.2.2.2.2.2.1, r_r.2.2.2.2.2.2.2.1, r_r.2.2.2.2.2.2.2.2.1, (0 : Int32), (0 : Int32), r_r.2.2.2.2.2.2.2.2.2.2.2) (bX6 a2 up kp p_p [])) hP hD
  refine lv_aload_n hx hb (zat zrX7_read_0_ok 18 rfl) rfl (lv_at hl 0 rfl) ?_
  refine lv_iconst (v := (-1)) hx hb (zat zrX7_read_0_ok 19 rfl) (by decide) ?_
  refine va_put (D := (dC, dI)) (ci := 5) (v := .int (-1)) (ty := .int) (C := RX7) (T := TX7) (N := 12) hx hb hts ifX7_read_X7 tyX7 tyX7_ok nmX7 hown hK hP hD hS 0 rfl rfl 11 (by decide) (hts (.fieldLink RX7 48 "HookPier$Reader" "place" "I") (List.mem_of_getElem? (i := 10) rfl)) (fun _ h9 => h9) rfl (by decide +kernel) rfl rfl (Nat.le_of_ble_eq_true rfl) (zat zrX7_read_0_ok 20 rfl) (fun H locs hP hD hS => ?_)
  obtain ⟨hP, hD⟩ := pd_mk (bX7 a0 ur kr (r_r.1, (0 : Int32), z6, r_r.2.2.2.1, r_r.2.2.2.2.1, (0 : Int32), r_r.2.2.2.2.2.2.1, r_r.2.2.2.2.2.2.2.1, r_r.2.2.2.2.2.2.2.2.1, (0 : Int32), (0 : Int32), (-1 : Int32)) (bX6 a2 up kp p_p [])) hP hD
  refine lv_aload_n hx hb (zat zrX7_read_0_ok 21 rfl) rfl (lv_at hl 2 rfl) ?_
  obtain ⟨o38, eo38⟩ : ∃ o, o = f_X6_clear p_p := ⟨_, rfl⟩
  have h := nm_of h o38 eo38
  refine ck_v (wc := (bX6 a2 up kp p_p [])) (wr := (bX7 a0 ur kr (r_r.1, (0 : Int32), z6, r_r.2.2.2.1, r_r.2.2.2.2.1, (0 : Int32), r_r.2.2.2.2.2.2.1, r_r.2.2.2.2.2.2.2.1, r_r.2.2.2.2.2.2.2.2.1, (0 : Int32), (0 : Int32), (-1 : Int32)) [])) hP hD hK hS hA [4, 5, 6, 7, 8, 9, 10, 11, 12, 13] [0, 1, 2, 3] rfl rfl (by decide) (by decide) (by decide) (fun hPc hDc => (va_runV (As := []) (rest := []) ⟨hx, hb, hml, hown, hts⟩ (kfX6_clear l dC dI a2 up kp p_p H.size o38 eo38.symm) (cwV 0 hts gfX7_read_0 rfl rfl rfl (by decide +kernel) ⟨(Nat.le_of_ble_eq_true rfl), (Nat.le_of_ble_eq_true rfl)⟩) (PV hPc (hK.sub (tys' := (tX6 kp ([]))) [3, 4, 5, 6, 7, 8, 9, 10, 11] rfl) hDc hN 0 rfl rfl) rfl rfl hl.1 rfl (lv_room (Nat.le_of_ble_eq_true rfl)) (zat zrX7_read_0_ok 22 rfl) ⟨(Nat.le_of_ble_eq_true rfl), (Nat.le_of_ble_eq_true rfl)⟩)) (fun _ H locs hw hP hD _ hS => ?_)
  obtain ⟨hP, hD⟩ := pd_mk (bX7 a0 ur kr (r_r.1, (0 : Int32), z6, r_r.2.2.2.1, r_r.2.2.2.2.1, (0 : Int32), r_r.2.2.2.2.2.2.1, r_r.2.2.2.2.2.2.2.1, r_r.2.2.2.2.2.2.2.2.1, (0 : Int32), (0 : Int32), (-1 : Int32)) (bX6 a2 up kp o38 [])) hP hD
  refine lv_aload_n hx hb (zat zrX7_read_0_ok 23 rfl) rfl (lv_at hl 0 rfl) ?_
  obtain ⟨o42, eo42, h⟩ := bd_of h
  refine ck_v (wc := (bX7 a0 ur kr (r_r.1, (0 : Int32), z6, r_r.2.2.2.1, r_r.2.2.2.2.1, (0 : Int32), r_r.2.2.2.2.2.2.1, r_r.2.2.2.2.2.2.2.1, r_r.2.2.2.2.2.2.2.2.1, (0 : Int32), (0 : Int32), (-1 : Int32)) [])) (wr := (bX6 a2 up kp o38 [])) hP hD hK hS hA [0, 1, 2, 3] [4, 5, 6, 7, 8, 9, 10, 11, 12, 13] rfl rfl (by decide) (by decide) (by decide) (fun hPc hDc => (va_runV (As := []) (rest := []) ⟨hx, hb, hml, hown, hts⟩ (kfX7_advance l dC dI a0 ur kr (r_r.1, (0 : Int32), z6, r_r.2.2.2.1, r_r.2.2.2.2.1, (0 : Int32), r_r.2.2.2.2.2.2.1, r_r.2.2.2.2.2.2.2.1, r_r.2.2.2.2.2.2.2.2.1, (0 : Int32), (0 : Int32), (-1 : Int32)) H.size o42 eo42) (cwV 0 hts gfX7_read_1 rfl rfl rfl (by decide +kernel) ⟨(Nat.le_of_ble_eq_true rfl), (Nat.le_of_ble_eq_true rfl)⟩) (PV hPc (hK.sub (tys' := (tX7 kr ([]))) [0, 1, 2] rfl) hDc hN 0 rfl rfl) rfl rfl hl.1 rfl (lv_room (Nat.le_of_ble_eq_true rfl)) (zat zrX7_read_0_ok 24 rfl) ⟨(Nat.le_of_ble_eq_true rfl), (Nat.le_of_ble_eq_true rfl)⟩)) (fun _ H locs hw hP hD _ hS => ?_)
  obtain ⟨hP, hD⟩ := pd_mk (bX6 a2 up kp o38 (bX7 a0 ur kr o42 [])) hP hD
  refine lv_iconst (v := 0) hx hb (zat zrX7_read_0_ok 25 rfl) (by decide) ?_
  refine lv_istore_n (lv' := [(3, .int 0), (0, .ref a0), (1, .int k1), (2, .ref a2)]) hx hb (zat zrX7_read_0_ok 26 rfl) rfl hl (by decide) rfl (fun ls hl => ?_)
  have L47 : ∀ (n47 : Nat) (v47_l3 : Int32) (v47_p_p : TX6_p) (v47_r_r : TX7_r) (H : Heap) (locs : List Loc) (ls : Array Slot), f_X7_read_L47 n47 v47_l3 v47_p_p v47_r_r = some out → va_P (dC, dI) vwCl (bX6 a2 up kp v47_p_p (bX7 a0 ur kr v47_r_r [])) H → va_D A (bX6 a2 up kp v47_p_p (bX7 a0 ur kr v47_r_r [])) → va_S A s.heap H locs → lv_has ls 4 [(3, .int v47_l3), (0, .ref a0), (2, .ref a2)] → W p l e (headSpec vfX7_read { frames := 9, cells := 0, slots := 0, locals := 194 }).room s m ([.ref a0, .int k1, .ref a2]).toArray below meth c H locs 0 0 QQ (F0 m 47 ls []) := by
    intro n47
    induction n47 with
    | zero =>
      intro v47_l3 v47_p_p v47_r_r H locs ls h  _ _ _ _
      rw [f_X7_read_L47] at h
      cases h
    | succ n47 ih47 =>
      intro v47_l3 v47_p_p v47_r_r H locs ls h  hP hD hS hl
      rw [f_X7_read_L47] at h
      refine lv_iload_n hx hb (zat zrX7_read_0_ok 27 rfl) rfl (lv_at hl 0 rfl) ?_
      refine lv_aload_n hx hb (zat zrX7_read_0_ok 28 rfl) rfl (lv_at hl 1 rfl) ?_
      refine va_get (D := (dC, dI)) (ci := 5) (v := .int v47_r_r.2.2.1) (C := RX7) (T := TX7) (N := 12) hx hb hts ifX7_read_X7 hown hK hP 10 rfl rfl 2 (by decide) (hts (.fieldLink RX7 19 "HookPier$Reader" "end" "I") (List.mem_of_getElem? (i := 6) rfl)) (fun _ h9 => h9) rfl (zat zrX7_read_0_ok 29 rfl) ?_
      refine lv_icmp_gt (tgt := 118) hx hb (zat zrX7_read_0_ok 30 rfl) (by decide) (fun c52 => ?_) (fun c52 => ?_)
      · have h := (if_pos c52).symm.trans h
        refine lv_aload_n hx hb (zat zrX7_read_0_ok 63 rfl) rfl (lv_at hl 1 rfl) ?_
        refine lv_iconst (v := 1) hx hb (zat zrX7_read_1_ok 0 rfl) (by decide) ?_
        obtain ⟨o120, eo120⟩ : ∃ o, o = f_X7_fail (1 : Int32) v47_r_r := ⟨_, rfl⟩
        have h := nm_of h o120 eo120
        refine ck_i (wc := (bX7 a0 ur kr v47_r_r [])) (wr := (bX6 a2 up kp v47_p_p [])) hP hD hK hS hA [10, 11, 12, 13] [0, 1, 2, 3, 4, 5, 6, 7, 8, 9] rfl rfl (by decide) (by decide) (by decide) (fun hPc hDc => (va_runV (As := [.int 1]) (rest := []) ⟨hx, hb, hml, hown, hts⟩ (kfX7_fail l dC dI a0 (1 : Int32) ur kr v47_r_r H.size o120 eo120.symm) (cwV 1 hts gfX7_read_2 rfl rfl rfl (by decide +kernel) ⟨(Nat.le_of_ble_eq_true rfl), (Nat.le_of_ble_eq_true rfl)⟩) (PV hPc (hK.sub (tys' := (tX7 kr ([]))) [0, 1, 2] rfl) hDc hN 0 rfl rfl) rfl rfl hl.1 rfl (lv_room (Nat.le_of_ble_eq_true rfl)) (zat zrX7_read_1_ok 1 rfl) ⟨(Nat.le_of_ble_eq_true rfl), (Nat.le_of_ble_eq_true rfl)⟩)) (fun r120 _ H locs hw hP hD _ hS => ?_)
        obtain ⟨hw, br120⟩ := hw
        obtain rfl := hw
        obtain ⟨hP, hD⟩ := pd_mk (bX6 a2 up kp v47_p_p (bX7 a0 ur kr o120 [])) hP hD
        obtain rfl := Option.some.inj h
        obtain ⟨hP9, hD9⟩ := pd_sub (bX7 a0 ur kr o120 (bX6 a2 up kp v47_p_p [])) [10, 11, 12, 13, 0, 1, 2, 3, 4, 5, 6, 7, 8, 9] hP hD (by decide) rfl
        have hK9 := hK.sub (tys' := []) [] rfl
        rw [hQQ]
        exact W.zret (v := (0 : Int32)) hx hb hr rfl (fun t ht hW => ⟨⟨(0 : Int32), (), rfl, ⟨rfl, (by decide)⟩, by rw [ht]; exact hP9, va_K.moved hW.alike hK9, hD9⟩, hS.F ht⟩) hS.2.2 (zat zrX7_read_1_ok 2 rfl)
      · have h := (if_neg c52).symm.trans h
        refine lv_aload_n hx hb (zat zrX7_read_0_ok 31 rfl) rfl (lv_at hl 1 rfl) ?_
        refine lv_aload_n hx hb (zat zrX7_read_0_ok 32 rfl) rfl (lv_at hl 2 rfl) ?_
        obtain ⟨o57, eo57, h⟩ := bd_of h
        refine ck_i (wc := (bX7 a0 ur kr v47_r_r (bX6 a2 up kp v47_p_p []))) (wr := []) hP hD hK hS hA [10, 11, 12, 13, 0, 1, 2, 3, 4, 5, 6, 7, 8, 9] [] rfl rfl (by decide) (by decide) (by decide) (fun hPc hDc => (va_runV (As := [.ref a2]) (rest := []) ⟨hx, hb, hml, hown, hts⟩ (kfX7_readLine l dC dI a0 a2 ur kr up kp v47_r_r v47_p_p H.size B o57 eo57) (cwV 1 hts gfX7_read_3 rfl rfl rfl (by decide +kernel) ⟨(Nat.le_of_ble_eq_true rfl), (Nat.le_of_ble_eq_true rfl)⟩) (PVF hPc (hK.sub (tys' := (tX7 kr (tX6 kp ([])))) [0, 1, 2, 3, 4, 5, 6, 7, 8, 9, 10, 11] rfl) hDc hN hS hB hE S1n 0 rfl rfl) rfl rfl hl.1 rfl (lv_room (Nat.le_of_ble_eq_true rfl)) (zat zrX7_read_0_ok 33 rfl) ⟨(Nat.le_of_ble_eq_true rfl), (Nat.le_of_ble_eq_true rfl)⟩)) (fun r57 _ H locs hw hP hD _ hS => ?_)
        obtain ⟨hw, br57⟩ := hw
        obtain rfl := hw
        obtain ⟨hP, hD⟩ := pd_mk (bX7 a0 ur kr o57.2.1 (bX6 a2 up kp o57.2.2 [])) hP hD
        refine lv_if_ne (tgt := 65) hx hb (zat zrX7_read_0_ok 34 rfl) (by decide) (fun c60 => ?_) (fun c60 => ?_)
        · have h := (if_neg c60).symm.trans h
          refine lv_aload_n hx hb (zat zrX7_read_0_ok 37 rfl) rfl (lv_at hl 1 rfl) ?_
          refine va_get (D := (dC, dI)) (ci := 5) (v := .int o57.2.1.2.2.2.1) (C := RX7) (T := TX7) (N := 12) hx hb hts ifX7_read_X7 hown hK hP 0 rfl rfl 3 (by decide) (hts (.fieldLink RX7 22 "HookPier$Reader" "token" "I") (List.mem_of_getElem? (i := 25) rfl)) (fun _ h9 => h9) rfl (zat zrX7_read_0_ok 38 rfl) ?_
          refine lv_if_ne (tgt := 94) hx hb (zat zrX7_read_0_ok 39 rfl) (by decide) (fun c69 => ?_) (fun c69 => ?_)
          · have h := (if_neg c69).symm.trans h
            refine lv_aload_n hx hb (zat zrX7_read_0_ok 51 rfl) rfl (lv_at hl 1 rfl) ?_
            refine va_get (D := (dC, dI)) (ci := 5) (v := .int o57.2.1.2.2.2.1) (C := RX7) (T := TX7) (N := 12) hx hb hts ifX7_read_X7 hown hK hP 0 rfl rfl 3 (by decide) (hts (.fieldLink RX7 22 "HookPier$Reader" "token" "I") (List.mem_of_getElem? (i := 25) rfl)) (fun _ h9 => h9) rfl (zat zrX7_read_0_ok 52 rfl) ?_
            refine lv_iconst (v := 3) hx hb (zat zrX7_read_0_ok 53 rfl) (by decide) ?_
            refine lv_icmp_eq (tgt := 108) hx hb (zat zrX7_read_0_ok 54 rfl) (by decide) (fun c99 => ?_) (fun c99 => ?_)
            · have h := (if_pos c99).symm.trans h
              refine lv_aload_n hx hb (zat zrX7_read_0_ok 59 rfl) rfl (lv_at hl 1 rfl) ?_
              obtain ⟨o109, eo109, h⟩ := bd_of h
              refine ck_v (wc := (bX7 a0 ur kr o57.2.1 [])) (wr := (bX6 a2 up kp o57.2.2 [])) hP hD hK hS hA [0, 1, 2, 3] [4, 5, 6, 7, 8, 9, 10, 11, 12, 13] rfl rfl (by decide) (by decide) (by decide) (fun hPc hDc => (va_runV (As := []) (rest := []) ⟨hx, hb, hml, hown, hts⟩ (kfX7_advance l dC dI a0 ur kr o57.2.1 H.size o109 eo109) (cwV 0 hts gfX7_read_1 rfl rfl rfl (by decide +kernel) ⟨(Nat.le_of_ble_eq_true rfl), (Nat.le_of_ble_eq_true rfl)⟩) (PV hPc (hK.sub (tys' := (tX7 kr ([]))) [0, 1, 2] rfl) hDc hN 0 rfl rfl) rfl rfl hl.1 rfl (lv_room (Nat.le_of_ble_eq_true rfl)) (zat zrX7_read_0_ok 60 rfl) ⟨(Nat.le_of_ble_eq_true rfl), (Nat.le_of_ble_eq_true rfl)⟩)) (fun _ H locs hw hP hD _ hS => ?_)
              obtain ⟨hP, hD⟩ := pd_mk (bX6 a2 up kp o57.2.2 (bX7 a0 ur kr o109 [])) hP hD
              refine lv_iinc (v := (v47_l3 + (1 : Int32))) (lv' := [(3, .int (v47_l3 + (1 : Int32))), (0, .ref a0), (2, .ref a2)]) hx hb (zat zrX7_read_0_ok 61 rfl) hl (k := 0) rfl rfl (by decide) rfl (fun ls hl => ?_)
              refine lv_goto (tgt := 47) hx hb (zat zrX7_read_0_ok 62 rfl) (by decide) ?_
              exact ih47 (v47_l3 + (1 : Int32)) o57.2.2 o109 H _ ls h  hP hD hS (lv_sub hl [0, 1, 2] rfl)
            · have h := (if_neg c99).symm.trans h
              refine lv_aload_n hx hb (zat zrX7_read_0_ok 55 rfl) rfl (lv_at hl 1 rfl) ?_
              refine lv_iconst (v := 1) hx hb (zat zrX7_read_0_ok 56 rfl) (by decide) ?_
              obtain ⟨o104, eo104⟩ : ∃ o, o = f_X7_fail (1 : Int32) o57.2.1 := ⟨_, rfl⟩
              have h := nm_of h o104 eo104
              refine ck_i (wc := (bX7 a0 ur kr o57.2.1 [])) (wr := (bX6 a2 up kp o57.2.2 [])) hP hD hK hS hA [0, 1, 2, 3] [4, 5, 6, 7, 8, 9, 10, 11, 12, 13] rfl rfl (by decide) (by decide) (by decide) (fun hPc hDc => (va_runV (As := [.int 1]) (rest := []) ⟨hx, hb, hml, hown, hts⟩ (kfX7_fail l dC dI a0 (1 : Int32) ur kr o57.2.1 H.size o104 eo104.symm) (cwV 1 hts gfX7_read_2 rfl rfl rfl (by decide +kernel) ⟨(Nat.le_of_ble_eq_true rfl), (Nat.le_of_ble_eq_true rfl)⟩) (PV hPc (hK.sub (tys' := (tX7 kr ([]))) [0, 1, 2] rfl) hDc hN 0 rfl rfl) rfl rfl hl.1 rfl (lv_room (Nat.le_of_ble_eq_true rfl)) (zat zrX7_read_0_ok 57 rfl) ⟨(Nat.le_of_ble_eq_true rfl), (Nat.le_of_ble_eq_true rfl)⟩)) (fun r104 _ H locs hw hP hD _ hS => ?_)
              obtain ⟨hw, br104⟩ := hw
              obtain rfl := hw
              obtain ⟨hP, hD⟩ := pd_mk (bX6 a2 up kp o57.2.2 (bX7 a0 ur kr o104 [])) hP hD
              obtain rfl := Option.some.inj h
              obtain ⟨hP9, hD9⟩ := pd_sub (bX7 a0 ur kr o104 (bX6 a2 up kp o57.2.2 [])) [10, 11, 12, 13, 0, 1, 2, 3, 4, 5, 6, 7, 8, 9] hP hD (by decide) rfl
              have hK9 := hK.sub (tys' := []) [] rfl
              rw [hQQ]
              exact W.zret (v := (0 : Int32)) hx hb hr rfl (fun t ht hW => ⟨⟨(0 : Int32), (), rfl, ⟨rfl, (by decide)⟩, by rw [ht]; exact hP9, va_K.moved hW.alike hK9, hD9⟩, hS.F ht⟩) hS.2.2 (zat zrX7_read_0_ok 58 rfl)
          · have h := (if_pos c69).symm.trans h
            refine lv_aload_n hx hb (zat zrX7_read_0_ok 40 rfl) rfl (lv_at hl 2 rfl) ?_
            refine va_get (D := (dC, dI)) (ci := 4) (v := .int o57.2.2.2.2.2.2.1) (C := RX6) (T := TX6) (N := 18) hx hb hts ifX7_read_X6 hown hK hP 4 rfl rfl 4 (by decide) (hts (.fieldLink RX7 69 "HookPier$Plan" "baits" "I") (List.mem_of_getElem? (i := 26) rfl)) (fun _ h9 => h9) rfl (zat zrX7_read_0_ok 41 rfl) ?_
            refine lv_if_gt (tgt := 88) hx hb (zat zrX7_read_0_ok 42 rfl) (by decide) (fun c76 => ?_) (fun c76 => ?_)
            · have h := (if_pos c76).symm.trans h
              refine lv_iconst (v := 1) hx hb (zat zrX7_read_0_ok 47 rfl) (by decide) ?_
              refine lv_goto (tgt := 93) hx hb (zat zrX7_read_0_ok 48 rfl) (by decide) ?_
              obtain rfl := Option.some.inj h
              obtain ⟨hP9, hD9⟩ := pd_sub (bX7 a0 ur kr o57.2.1 (bX6 a2 up kp o57.2.2 [])) [0, 1, 2, 3, 4, 5, 6, 7, 8, 9, 10, 11, 12, 13] hP hD (by decide) rfl
              have hK9 := hK.sub (tys' := []) [] rfl
              rw [hQQ]
              exact W.zret (v := (1 : Int32)) hx hb hr rfl (fun t ht hW => ⟨⟨(1 : Int32), (), rfl, ⟨rfl, (by decide)⟩, by rw [ht]; exact hP9, va_K.moved hW.alike hK9, hD9⟩, hS.F ht⟩) hS.2.2 (zat zrX7_read_0_ok 50 rfl)
            · have h := (if_neg c76).symm.trans h
              refine lv_aload_n hx hb (zat zrX7_read_0_ok 43 rfl) rfl (lv_at hl 1 rfl) ?_
              refine lv_bipush (v := 6) hx hb (zat zrX7_read_0_ok 44 rfl) (by decide) ?_
              obtain ⟨o82, eo82⟩ : ∃ o, o = f_X7_fail (6 : Int32) o57.2.1 := ⟨_, rfl⟩
              have h := nm_of h o82 eo82
              refine ck_i (wc := (bX7 a0 ur kr o57.2.1 [])) (wr := (bX6 a2 up kp o57.2.2 [])) hP hD hK hS hA [0, 1, 2, 3] [4, 5, 6, 7, 8, 9, 10, 11, 12, 13] rfl rfl (by decide) (by decide) (by decide) (fun hPc hDc => (va_runV (As := [.int 6]) (rest := []) ⟨hx, hb, hml, hown, hts⟩ (kfX7_fail l dC dI a0 (6 : Int32) ur kr o57.2.1 H.size o82 eo82.symm) (cwV 1 hts gfX7_read_2 rfl rfl rfl (by decide +kernel) ⟨(Nat.le_of_ble_eq_true rfl), (Nat.le_of_ble_eq_true rfl)⟩) (PV hPc (hK.sub (tys' := (tX7 kr ([]))) [0, 1, 2] rfl) hDc hN 0 rfl rfl) rfl rfl hl.1 rfl (lv_room (Nat.le_of_ble_eq_true rfl)) (zat zrX7_read_0_ok 45 rfl) ⟨(Nat.le_of_ble_eq_true rfl), (Nat.le_of_ble_eq_true rfl)⟩)) (fun r82 _ H locs hw hP hD _ hS => ?_)
              obtain ⟨hw, br82⟩ := hw
              obtain rfl := hw
              obtain ⟨hP, hD⟩ := pd_mk (bX6 a2 up kp o57.2.2 (bX7 a0 ur kr o82 [])) hP hD
              refine lv_if_eq (tgt := 92) hx hb (zat zrX7_read_0_ok 46 rfl) (by decide) (fun _ => ?_) (fun c85 => absurd c85 (by decide))
              refine lv_iconst (v := 0) hx hb (zat zrX7_read_0_ok 49 rfl) (by decide) ?_
              obtain rfl := Option.some.inj h
              obtain ⟨hP9, hD9⟩ := pd_sub (bX7 a0 ur kr o82 (bX6 a2 up kp o57.2.2 [])) [10, 11, 12, 13, 0, 1, 2, 3, 4, 5, 6, 7, 8, 9] hP hD (by decide) rfl
              have hK9 := hK.sub (tys' := []) [] rfl
              rw [hQQ]
              exact W.zret (v := (0 : Int32)) hx hb hr rfl (fun t ht hW => ⟨⟨(0 : Int32), (), rfl, ⟨rfl, (by decide)⟩, by rw [ht]; exact hP9, va_K.moved hW.alike hK9, hD9⟩, hS.F ht⟩) hS.2.2 (zat zrX7_read_0_ok 50 rfl)
        · have h := (if_pos c60).symm.trans h
          refine lv_iconst (v := 0) hx hb (zat zrX7_read_0_ok 35 rfl) (by decide) ?_
          obtain rfl := Option.some.inj h
          obtain ⟨hP9, hD9⟩ := pd_sub (bX7 a0 ur kr o57.2.1 (bX6 a2 up kp o57.2.2 [])) [0, 1, 2, 3, 4, 5, 6, 7, 8, 9, 10, 11, 12, 13] hP hD (by decide) rfl
          have hK9 := hK.sub (tys' := []) [] rfl
          rw [hQQ]
          exact W.zret (v := (0 : Int32)) hx hb hr rfl (fun t ht hW => ⟨⟨(0 : Int32), (), rfl, ⟨rfl, (by decide)⟩, by rw [ht]; exact hP9, va_K.moved hW.alike hK9, hD9⟩, hS.F ht⟩) hS.2.2 (zat zrX7_read_0_ok 36 rfl)
  exact L47 FU (0 : Int32) o38 o42 H _ ls h  hP hD hS (lv_sub hl [0, 1, 3] rfl)
noncomputable def zrX7_put_0 : List ZR := zc 0 true (.bipush 24) 2 (zc 2 true (.istore_n 2) 1 (zc 3 true (.iload_n 2) 1 (zc 4 true (.ifCond .lt 44) 3 (zc 7 true (.aload_n 0) 1 (zc 8 true (.getfield 15) 3 (zc 11 true (.aload_n 0) 1 (zc 12 true (.getfield 9) 3 (zc 15 true (.arraylength) 1 (zc 16 true (.if_icmp .ge 32) 3 (zc 19 true (.aload_n 0) 1 (zc 20 true (.getfield 9) 3 (zc 23 true (.aload_n 0) 1 (zc 24 true (.getfield 15) 3 (zc 27 true (.iload_n 1) 1 (zc 28 true (.iload_n 2) 1 (zc 29 true (.ishr) 1 (zc 30 true (.i2b) 1 (zc 31 true (.bastore) 1 (zc 32 true (.aload_n 0) 1 (zc 33 true (.dup) 1 (zc 34 true (.getfield 15) 3 (zc 37 true (.iconst 1) 1 (zc 38 true (.iadd) 1 (zc 39 true (.putfield 15) 3 (zc 42 true (.iinc 2 (-8)) 3 (zc 45 true (.goto (-42)) 3 (zc 48 true (.return_) 1 ([]))))))))))))))))))))))))))))
theorem zrX7_put_0_ok : zck 0 ((zby cX7_put).drop 0) zrX7_put_0 = true := by decide +kernel
def vfX7_put : List Cond := List.cons (.code yX7_put cX7_put 3 none) (apW [.fieldLink RX7 15 "HookPier$Reader" "fed" "I", .fieldLink RX7 9 "HookPier$Reader" "text" "[B"] (wsX70))
theorem ifX7_put_X7 : ∀ w ∈ wsX70, w ∈ vfX7_put := fun _ h => (List.mem_cons_of_mem _ (List.mem_append_right _ h))
theorem qfX7_put : Good vfX7_put := gd_cons (by decide +kernel) (gd_app (gd_dec (by decide +kernel) : Good [.fieldLink RX7 15 "HookPier$Reader" "fed" "I", .fieldLink RX7 9 "HookPier$Reader" "text" "[B"]) qsX7)
set_option maxHeartbeats 2000000 in
set_option maxRecDepth 100000 in
theorem kfX7_put (l : Launch) (dC : Nat → ClassId) (dI : Nat → Nat → Nat) (a0 : Nat) (k1 : Int32) (ur : Nat → Nat) (kr : Nat → ClassId) (r_r : TX7_r) (sz : Nat) (out : TX7_r) (h : f_X7_put k1 r_r = some out) : KCv l yX7_put vfX7_put ({ frames := 0, cells := 0, slots := 0, locals := 0 }) (dC, dI) [.ref a0, .int k1] sz (bX7 a0 ur kr r_r []) (tX7 kr ([])) (fun _ => True) (bX7 a0 ur kr out []) 0 0 := by
  refine Met.ofW (cc := cX7_put) (maxL := 3) (ret := none) (by decide) rfl ?_
  intro p e s m args below meth c s₁ B0 hml hv
  obtain ⟨rfl, hsz, hP, hK, hD0, hN⟩ := hv
  have hx := B0.exec
  have hb := B0.bytes
  have hr := B0.returns
  have hts := atoms_spec (ws := vfX7_put) B0.pre
  have hown : s.vm.findClass RX7 = some m.cls := findClass_of_methodNamed B0.named
  have hlocks := B0.notSynchronized
  subst hsz
  have hD := hD0.self (sz := s.heap.size)
  generalize hAe : va_A (bX7 a0 ur kr r_r []) s.heap.size = A at hD ⊢
  have hA : ∀ q : Nat, s.heap.size ≤ q → A q := fun q h => by rw [← hAe]; exact Or.inr h
  have hS : va_S A s.heap s.heap [] := va_S.rf
  have hP : va_P (dC, dI) vwCl (bX7 a0 ur kr r_r []) s.heap := hP
  have hl := lv_entry ([.ref a0, .int k1]) (n := 3) (Nat.le_of_ble_eq_true rfl)
  rw [lg_entry_eq]
  generalize (lg_sl ([.ref a0, .int k1]) ++ List.replicate (3 - (lg_sl ([.ref a0, .int k1])).length) Slot.unset).toArray = ls at hl ⊢
  have hl : lv_has ls 3 [(0, .ref a0), (1, .int k1)] := hl
  refine W_q (fun QQ hQQ => ?_)
  rw [f_X7_put] at h
  refine lv_bipush (v := 24) hx hb (zat zrX7_put_0_ok 0 rfl) (by decide) ?_
  refine lv_istore_n (lv' := [(2, .int 24), (0, .ref a0), (1, .int k1)]) hx hb (zat zrX7_put_0_ok 1 rfl) rfl hl (by decide) rfl (fun ls hl => ?_)
  have L3 : ∀ (n3 : Nat) (v3_l2 : Int32) (v3_r_r : TX7_r) (H : Heap) (locs : List Loc) (ls : Array Slot), f_X7_put_L3 k1 n3 v3_l2 v3_r_r = some out → va_P (dC, dI) vwCl (bX7 a0 ur kr v3_r_r []) H → va_D A (bX7 a0 ur kr v3_r_r []) → va_S A s.heap H locs → lv_has ls 3 [(2, .int v3_l2), (0, .ref a0), (1, .int k1)] → W p l e (headSpec vfX7_put { frames := 0, cells := 0, slots := 0, locals := 0 }).room s m ([.ref a0, .int k1]).toArray below meth c H locs 0 0 QQ (F0 m 3 ls []) := by
    intro n3
    induction n3 with
    | zero =>
      intro v3_l2 v3_r_r H locs ls h  _ _ _ _
      rw [f_X7_put_L3] at h
      cases h
    | succ n3 ih3 =>
      intro v3_l2 v3_r_r H locs ls h  hP hD hS hl
      rw [f_X7_put_L3] at h
      refine lv_iload_n hx hb (zat zrX7_put_0_ok 2 rfl) rfl (lv_at hl 0 rfl) ?_
      refine lv_if_lt (tgt := 48) hx hb (zat zrX7_put_0_ok 3 rfl) (by decide) (fun c4 => ?_) (fun c4 => ?_)
      · have h := (if_pos c4).symm.trans h
        obtain rfl := Option.some.inj h
        obtain ⟨hP9, hD9⟩ := pd_sub (bX7 a0 ur kr v3_r_r []) [0, 1, 2, 3] hP hD (by decide) rfl
        have hK9 := hK.sub (tys' := []) [] rfl
        rw [hQQ]
        exact W.vret hx hb hr (fun t ht hW => ⟨⟨(), rfl, trivial, by rw [ht]; exact hP9, va_K.moved hW.alike hK9, hD9⟩, hS.F ht⟩) hS.2.2 (zat zrX7_put_0_ok 27 rfl)
      · have h := (if_neg c4).symm.trans h
        refine lv_aload_n hx hb (zat zrX7_put_0_ok 4 rfl) rfl (lv_at hl 1 rfl) ?_
        refine va_get (D := (dC, dI)) (ci := 5) (v := .int v3_r_r.2.1) (C := RX7) (T := TX7) (N := 12) hx hb hts ifX7_put_X7 hown hK hP 0 rfl rfl 1 (by decide) (hts (.fieldLink RX7 15 "HookPier$Reader" "fed" "I") (List.mem_of_getElem? (i := 1) rfl)) (fun _ h9 => h9) rfl (zat zrX7_put_0_ok 5 rfl) ?_
        refine lv_aload_n hx hb (zat zrX7_put_0_ok 6 rfl) rfl (lv_at hl 1 rfl) ?_
        refine va_get (D := (dC, dI)) (ci := 5) (v := .ref (ur 0)) (C := RX7) (T := TX7) (N := 12) hx hb hts ifX7_put_X7 hown hK hP 0 rfl rfl 0 (by decide) (hts (.fieldLink RX7 9 "HookPier$Reader" "text" "[B") (List.mem_of_getElem? (i := 2) rfl)) (fun _ h9 => h9) rfl (zat zrX7_put_0_ok 7 rfl) ?_
        refine va_alen (v := 900) hx hb hK hP 1 0 rfl rfl rfl (zat zrX7_put_0_ok 8 rfl) ?_
        refine lv_icmp_ge (tgt := 48) hx hb (zat zrX7_put_0_ok 9 rfl) (by decide) (fun c16 => ?_) (fun c16 => ?_)
        · have h := (if_pos c16).symm.trans h
          obtain rfl := Option.some.inj h
          obtain ⟨hP9, hD9⟩ := pd_sub (bX7 a0 ur kr v3_r_r []) [0, 1, 2, 3] hP hD (by decide) rfl
          have hK9 := hK.sub (tys' := []) [] rfl
          rw [hQQ]
          exact W.vret hx hb hr (fun t ht hW => ⟨⟨(), rfl, trivial, by rw [ht]; exact hP9, va_K.moved hW.alike hK9, hD9⟩, hS.F ht⟩) hS.2.2 (zat zrX7_put_0_ok 27 rfl)
        · have h := (if_neg c16).symm.trans h
          refine lv_aload_n hx hb (zat zrX7_put_0_ok 10 rfl) rfl (lv_at hl 1 rfl) ?_
          refine va_get (D := (dC, dI)) (ci := 5) (v := .ref (ur 0)) (C := RX7) (T := TX7) (N := 12) hx hb hts ifX7_put_X7 hown hK hP 0 rfl rfl 0 (by decide) (hts (.fieldLink RX7 9 "HookPier$Reader" "text" "[B") (List.mem_of_getElem? (i := 2) rfl)) (fun _ h9 => h9) rfl (zat zrX7_put_0_ok 11 rfl) ?_
          refine lv_aload_n hx hb (zat zrX7_put_0_ok 12 rfl) rfl (lv_at hl 1 rfl) ?_
          refine va_get (D := (dC, dI)) (ci := 5) (v := .int v3_r_r.2.1) (C := RX7) (T := TX7) (N := 12) hx hb hts ifX7_put_X7 hown hK hP 0 rfl rfl 1 (by decide) (hts (.fieldLink RX7 15 "HookPier$Reader" "fed" "I") (List.mem_of_getElem? (i := 1) rfl)) (fun _ h9 => h9) rfl (zat zrX7_put_0_ok 13 rfl) ?_
          refine lv_iload_n hx hb (zat zrX7_put_0_ok 14 rfl) rfl (lv_at hl 2 rfl) ?_
          refine lv_iload_n hx hb (zat zrX7_put_0_ok 15 rfl) rfl (lv_at hl 0 rfl) ?_
          refine lv_ishr hx hb (zat zrX7_put_0_ok 16 rfl) ?_
          refine lv_i2b hx hb (zat zrX7_put_0_ok 17 rfl) rfl ?_
          obtain ⟨hg31, h⟩ := gA_of h
          refine va_bast hx hb hK hP hD hS 1 0 rfl rfl hg31 (zat zrX7_put_0_ok 18 rfl) (fun H locs hP hD hS => ?_)
          obtain ⟨hP, hD⟩ := pd_mk (bX7 a0 ur kr ((upd v3_r_r.1 (v3_r_r.2.1).toNatClampNeg (vp_nar .byte ((k1 >>> (v3_l2 &&& 31))).toInt8.toInt32)), v3_r_r.2) []) hP hD
          refine lv_aload_n hx hb (zat zrX7_put_0_ok 19 rfl) rfl (lv_at hl 1 rfl) ?_
          refine lv_dup hx hb (zat zrX7_put_0_ok 20 rfl) rfl ?_
          refine va_get (D := (dC, dI)) (ci := 5) (v := .int v3_r_r.2.1) (C := RX7) (T := TX7) (N := 12) hx hb hts ifX7_put_X7 hown hK hP 0 rfl rfl 1 (by decide) (hts (.fieldLink RX7 15 "HookPier$Reader" "fed" "I") (List.mem_of_getElem? (i := 1) rfl)) (fun _ h9 => h9) rfl (zat zrX7_put_0_ok 21 rfl) ?_
          refine lv_iconst (v := 1) hx hb (zat zrX7_put_0_ok 22 rfl) (by decide) ?_
          refine lv_iadd hx hb (zat zrX7_put_0_ok 23 rfl) ?_
          refine va_put (D := (dC, dI)) (ci := 5) (v := .int (v3_r_r.2.1 + (1 : Int32))) (ty := .int) (C := RX7) (T := TX7) (N := 12) hx hb hts ifX7_put_X7 tyX7 tyX7_ok nmX7 hown hK hP hD hS 0 rfl rfl 1 (by decide) (hts (.fieldLink RX7 15 "HookPier$Reader" "fed" "I") (List.mem_of_getElem? (i := 1) rfl)) (fun _ h9 => h9) rfl (by decide +kernel) rfl rfl (Nat.le_of_ble_eq_true rfl) (zat zrX7_put_0_ok 24 rfl) (fun H locs hP hD hS => ?_)
          obtain ⟨hP, hD⟩ := pd_mk (bX7 a0 ur kr ((upd v3_r_r.1 (v3_r_r.2.1).toNatClampNeg (vp_nar .byte ((k1 >>> (v3_l2 &&& 31))).toInt8.toInt32)), (v3_r_r.2.1 + (1 : Int32)), v3_r_r.2.2) []) hP hD
          refine lv_iinc (v := (v3_l2 + (-8 : Int32))) (lv' := [(2, .int (v3_l2 + (-8 : Int32))), (0, .ref a0), (1, .int k1)]) hx hb (zat zrX7_put_0_ok 25 rfl) hl (k := 0) rfl rfl (by decide) rfl (fun ls hl => ?_)
          refine lv_goto (tgt := 3) hx hb (zat zrX7_put_0_ok 26 rfl) (by decide) ?_
          exact ih3 (v3_l2 + (-8 : Int32)) ((upd v3_r_r.1 (v3_r_r.2.1).toNatClampNeg (vp_nar .byte ((k1 >>> (v3_l2 &&& 31))).toInt8.toInt32)), (v3_r_r.2.1 + (1 : Int32)), v3_r_r.2.2) H _ ls h  hP hD hS (lv_sub hl [0, 1, 2] rfl)
  exact L3 FU (24 : Int32) r_r s.heap _ ls h  hP hD hS (lv_sub hl [0, 1, 2] rfl)
