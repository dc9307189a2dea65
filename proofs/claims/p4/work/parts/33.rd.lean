theorem dX7_readBite_0 : decode cX7_readBite 0 = .ok (.aload_n 0, 1) := by decide +kernel
theorem dX7_readBite_1 : decode cX7_readBite 1 = .ok (.iconst 0, 1) := by decide +kernel
theorem dX7_readBite_102 : decode cX7_readBite 102 = .ok (.aload_n 0, 1) := by decide +kernel
theorem dX7_readBite_103 : decode cX7_readBite 103 = .ok (.getfield 31, 3) := by decide +kernel
theorem dX7_readBite_106 : decode cX7_readBite 106 = .ok (.iconst 1, 1) := by decide +kernel
theorem dX7_readBite_107 : decode cX7_readBite 107 = .ok (.if_icmp .ne 7, 3) := by decide +kernel
theorem dX7_readBite_11 : decode cX7_readBite 11 = .ok (.ifCond .ne 5, 3) := by decide +kernel
theorem dX7_readBite_110 : decode cX7_readBite 110 = .ok (.iconst 1, 1) := by decide +kernel
theorem dX7_readBite_111 : decode cX7_readBite 111 = .ok (.goto 4, 3) := by decide +kernel
theorem dX7_readBite_114 : decode cX7_readBite 114 = .ok (.iconst 0, 1) := by decide +kernel
theorem dX7_readBite_115 : decode cX7_readBite 115 = .ok (.bastore, 1) := by decide +kernel
theorem dX7_readBite_116 : decode cX7_readBite 116 = .ok (.aload_n 1, 1) := by decide +kernel
theorem dX7_readBite_117 : decode cX7_readBite 117 = .ok (.dup, 1) := by decide +kernel
theorem dX7_readBite_118 : decode cX7_readBite 118 = .ok (.getfield 123, 3) := by decide +kernel
theorem dX7_readBite_121 : decode cX7_readBite 121 = .ok (.iconst 1, 1) := by decide +kernel
theorem dX7_readBite_122 : decode cX7_readBite 122 = .ok (.iadd, 1) := by decide +kernel
theorem dX7_readBite_123 : decode cX7_readBite 123 = .ok (.putfield 123, 3) := by decide +kernel
theorem dX7_readBite_126 : decode cX7_readBite 126 = .ok (.iconst 1, 1) := by decide +kernel
theorem dX7_readBite_127 : decode cX7_readBite 127 = .ok (.ireturn, 1) := by decide +kernel
theorem dX7_readBite_14 : decode cX7_readBite 14 = .ok (.iconst 0, 1) := by decide +kernel
theorem dX7_readBite_15 : decode cX7_readBite 15 = .ok (.ireturn, 1) := by decide +kernel
theorem dX7_readBite_16 : decode cX7_readBite 16 = .ok (.aload_n 0, 1) := by decide +kernel
theorem dX7_readBite_17 : decode cX7_readBite 17 = .ok (.getfield 31, 3) := by decide +kernel
theorem dX7_readBite_2 : decode cX7_readBite 2 = .ok (.aload_n 1, 1) := by decide +kernel
theorem dX7_readBite_20 : decode cX7_readBite 20 = .ok (.istore_n 2, 1) := by decide +kernel
theorem dX7_readBite_21 : decode cX7_readBite 21 = .ok (.aload_n 0, 1) := by decide +kernel
theorem dX7_readBite_22 : decode cX7_readBite 22 = .ok (.ldc 189, 2) := by decide +kernel
theorem dX7_readBite_24 : decode cX7_readBite 24 = .ok (.invokevirtual 130, 3) := by decide +kernel
theorem dX7_readBite_27 : decode cX7_readBite 27 = .ok (.ifCond .eq 15, 3) := by decide +kernel
theorem dX7_readBite_3 : decode cX7_readBite 3 = .ok (.getfield 82, 3) := by decide +kernel
theorem dX7_readBite_30 : decode cX7_readBite 30 = .ok (.aload_n 0, 1) := by decide +kernel
theorem dX7_readBite_31 : decode cX7_readBite 31 = .ok (.iconst 1, 1) := by decide +kernel
theorem dX7_readBite_32 : decode cX7_readBite 32 = .ok (.aload_n 1, 1) := by decide +kernel
theorem dX7_readBite_33 : decode cX7_readBite 33 = .ok (.getfield 139, 3) := by decide +kernel
theorem dX7_readBite_36 : decode cX7_readBite 36 = .ok (.invokevirtual 133, 3) := by decide +kernel
theorem dX7_readBite_39 : decode cX7_readBite 39 = .ok (.ifCond .ne 5, 3) := by decide +kernel
theorem dX7_readBite_42 : decode cX7_readBite 42 = .ok (.iconst 0, 1) := by decide +kernel
theorem dX7_readBite_43 : decode cX7_readBite 43 = .ok (.ireturn, 1) := by decide +kernel
theorem dX7_readBite_44 : decode cX7_readBite 44 = .ok (.aload_n 0, 1) := by decide +kernel
theorem dX7_readBite_45 : decode cX7_readBite 45 = .ok (.getfield 31, 3) := by decide +kernel
theorem dX7_readBite_48 : decode cX7_readBite 48 = .ok (.istore_n 3, 1) := by decide +kernel
theorem dX7_readBite_49 : decode cX7_readBite 49 = .ok (.aload_n 0, 1) := by decide +kernel
theorem dX7_readBite_50 : decode cX7_readBite 50 = .ok (.ldc 88, 2) := by decide +kernel
theorem dX7_readBite_52 : decode cX7_readBite 52 = .ok (.invokevirtual 130, 3) := by decide +kernel
theorem dX7_readBite_55 : decode cX7_readBite 55 = .ok (.ifCond .eq 10, 3) := by decide +kernel
theorem dX7_readBite_58 : decode cX7_readBite 58 = .ok (.aload_n 0, 1) := by decide +kernel
theorem dX7_readBite_59 : decode cX7_readBite 59 = .ok (.invokevirtual 179, 3) := by decide +kernel
theorem dX7_readBite_6 : decode cX7_readBite 6 = .ok (.iconst 1, 1) := by decide +kernel
theorem dX7_readBite_62 : decode cX7_readBite 62 = .ok (.ifCond .ne 5, 3) := by decide +kernel
theorem dX7_readBite_65 : decode cX7_readBite 65 = .ok (.iconst 0, 1) := by decide +kernel
theorem dX7_readBite_66 : decode cX7_readBite 66 = .ok (.ireturn, 1) := by decide +kernel
theorem dX7_readBite_67 : decode cX7_readBite 67 = .ok (.aload_n 1, 1) := by decide +kernel
theorem dX7_readBite_68 : decode cX7_readBite 68 = .ok (.getfield 191, 3) := by decide +kernel
theorem dX7_readBite_7 : decode cX7_readBite 7 = .ok (.isub, 1) := by decide +kernel
theorem dX7_readBite_71 : decode cX7_readBite 71 = .ok (.aload_n 1, 1) := by decide +kernel
theorem dX7_readBite_72 : decode cX7_readBite 72 = .ok (.getfield 123, 3) := by decide +kernel
theorem dX7_readBite_75 : decode cX7_readBite 75 = .ok (.iload_n 2, 1) := by decide +kernel
theorem dX7_readBite_76 : decode cX7_readBite 76 = .ok (.iload_n 3, 1) := by decide +kernel
theorem dX7_readBite_77 : decode cX7_readBite 77 = .ok (.aload_n 0, 1) := by decide +kernel
theorem dX7_readBite_78 : decode cX7_readBite 78 = .ok (.getfield 31, 3) := by decide +kernel
theorem dX7_readBite_8 : decode cX7_readBite 8 = .ok (.invokevirtual 133, 3) := by decide +kernel
theorem dX7_readBite_81 : decode cX7_readBite 81 = .ok (.invokestatic 193, 3) := by decide +kernel
theorem dX7_readBite_84 : decode cX7_readBite 84 = .ok (.iastore, 1) := by decide +kernel
theorem dX7_readBite_85 : decode cX7_readBite 85 = .ok (.aload_n 0, 1) := by decide +kernel
theorem dX7_readBite_86 : decode cX7_readBite 86 = .ok (.invokevirtual 197, 3) := by decide +kernel
theorem dX7_readBite_89 : decode cX7_readBite 89 = .ok (.ifCond .ne 5, 3) := by decide +kernel
theorem dX7_readBite_92 : decode cX7_readBite 92 = .ok (.iconst 0, 1) := by decide +kernel
theorem dX7_readBite_93 : decode cX7_readBite 93 = .ok (.ireturn, 1) := by decide +kernel
theorem dX7_readBite_94 : decode cX7_readBite 94 = .ok (.aload_n 1, 1) := by decide +kernel
theorem dX7_readBite_95 : decode cX7_readBite 95 = .ok (.getfield 200, 3) := by decide +kernel
theorem dX7_readBite_98 : decode cX7_readBite 98 = .ok (.aload_n 1, 1) := by decide +kernel
theorem dX7_readBite_99 : decode cX7_readBite 99 = .ok (.getfield 123, 3) := by decide +kernel
def vfX7_readBite : List Cond := List.cons (.code yX7_readBite cX7_readBite 4 (some .boolean)) (apW [.fieldLink RX7 82 "HookPier$Plan" "spots" "I", .methodLink RX7 133 yX7_takeWhole, .instanceMethod yX7_takeWhole, .selects RX7 yX7_takeWhole yX7_takeWhole, .initialized RX7, .fieldLink RX7 31 "HookPier$Reader" "value" "I", .methodLink RX7 130 yX7_takeWord, .instanceMethod yX7_takeWord, .selects RX7 yX7_takeWord yX7_takeWord, .fieldLink RX7 139 "HookPier$Plan" "deep" "I", .methodLink RX7 179 yX7_takeBait, .instanceMethod yX7_takeBait, .selects RX7 yX7_takeBait yX7_takeBait, .fieldLink RX7 191 "HookPier$Plan" "bite" "[I", .fieldLink RX7 123 "HookPier$Plan" "bites" "I", .initialized RX10, .static yX10_question, .methodLink RX7 197 yX7_takeYes, .instanceMethod yX7_takeYes, .selects RX7 yX7_takeYes yX7_takeYes, .fieldLink RX7 200 "HookPier$Plan" "bit" "[Z"] (apW wsX60 (apW wsX70 (apW vfX7_takeWhole (apW vfX7_takeWord (apW vfX7_takeBait (apW vfX10_question (vfX7_takeYes))))))))
theorem ifX7_readBite_X6 : ∀ w ∈ wsX60, w ∈ vfX7_readBite := fun _ h => (List.mem_cons_of_mem _ (List.mem_append_right _ (List.mem_append_left _ h)))
theorem ifX7_readBite_X7 : ∀ w ∈ wsX70, w ∈ vfX7_readBite := fun _ h => (List.mem_cons_of_mem _ (List.mem_append_right _ (List.mem_append_right _ (List.mem_append_left _ h))))
theorem qfX7_readBite : Good vfX7_readBite := gd_cons (by decide +kernel) (gd_app (gd_dec (by decide +kernel) : Good [.fieldLink RX7 82 "HookPier$Plan" "spots" "I", .methodLink RX7 133 yX7_takeWhole, .instanceMethod yX7_takeWhole, .selects RX7 yX7_takeWhole yX7_takeWhole, .initialized RX7, .fieldLink RX7 31 "HookPier$Reader" "value" "I", .methodLink RX7 130 yX7_takeWord, .instanceMethod yX7_takeWord, .selects RX7 yX7_takeWord yX7_takeWord, .fieldLink RX7 139 "HookPier$Plan" "deep" "I", .methodLink RX7 179 yX7_takeBait, .instanceMethod yX7_takeBait, .selects RX7 yX7_takeBait yX7_takeBait, .fieldLink RX7 191 "HookPier$Plan" "bite" "[I", .fieldLink RX7 123 "HookPier$Plan" "bites" "I", .initialized RX10, .static yX10_question, .methodLink RX7 197 yX7_takeYes, .instanceMethod yX7_takeYes, .selects RX7 yX7_takeYes yX7_takeYes, .fieldLink RX7 200 "HookPier$Plan" "bit" "[Z"]) (gd_app qsX6 (gd_app qsX7 (gd_app qfX7_takeWhole (gd_app qfX7_takeWord (gd_app qfX7_takeBait (gd_app qfX10_question qfX7_takeYes)))))))
theorem gfX7_readBite_0 : GoodIn vfX7_readBite (wsV RX7 133 RX7 yX7_takeWhole vfX7_takeWhole) := goodIn_app (goodIn_r [.methodLink RX7 133 yX7_takeWhole, .instanceMethod yX7_takeWhole, .selects RX7 yX7_takeWhole yX7_takeWhole, .initialized RX7] [2, 3, 4, 5] rfl (by decide +kernel)) (goodIn_m (fun _ h => (List.mem_cons_of_mem _ (List.mem_append_right _ (List.mem_append_right _ (List.mem_append_right _ (List.mem_append_left _ h)))))) qfX7_takeWhole)
theorem gfX7_readBite_1 : GoodIn vfX7_readBite (wsV RX7 130 RX7 yX7_takeWord vfX7_takeWord) := goodIn_app (goodIn_r [.methodLink RX7 130 yX7_takeWord, .instanceMethod yX7_takeWord, .selects RX7 yX7_takeWord yX7_takeWord, .initialized RX7] [7, 8, 9, 5] rfl (by decide +kernel)) (goodIn_m (fun _ h => (List.mem_cons_of_mem _ (List.mem_append_right _ (List.mem_append_right _ (List.mem_append_right _ (List.mem_append_right _ (List.mem_append_left _ h))))))) qfX7_takeWord)
theorem gfX7_readBite_2 : GoodIn vfX7_readBite (wsV RX7 179 RX7 yX7_takeBait vfX7_takeBait) := goodIn_app (goodIn_r [.methodLink RX7 179 yX7_takeBait, .instanceMethod yX7_takeBait, .selects RX7 yX7_takeBait yX7_takeBait, .initialized RX7] [11, 12, 13, 5] rfl (by decide +kernel)) (goodIn_m (fun _ h => (List.mem_cons_of_mem _ (List.mem_append_right _ (List.mem_append_right _ (List.mem_append_right _ (List.mem_append_right _ (List.mem_append_right _ (List.mem_append_left _ h)))))))) qfX7_takeBait)
theorem gfX7_readBite_3 : GoodIn vfX7_readBite vfX10_question := (goodIn_m (fun _ h => (List.mem_cons_of_mem _ (List.mem_append_right _ (List.mem_append_right _ (List.mem_append_right _ (List.mem_append_right _ (List.mem_append_right _ (List.mem_append_right _ (List.mem_append_left _ h))))))))) qfX10_question)
theorem gfX7_readBite_4 : GoodIn vfX7_readBite (wsV RX7 197 RX7 yX7_takeYes vfX7_takeYes) := goodIn_app (goodIn_r [.methodLink RX7 197 yX7_takeYes, .instanceMethod yX7_takeYes, .selects RX7 yX7_takeYes yX7_takeYes, .initialized RX7] [18, 19, 20, 5] rfl (by decide +kernel)) (goodIn_m (fun _ h => (List.mem_cons_of_mem _ (List.mem_append_right _ (List.mem_append_right _ (List.mem_append_right _ (List.mem_append_right _ (List.mem_append_right _ (List.mem_append_right _ (List.mem_append_right _ h))))))))) qfX7_takeYes)
set_option maxHeartbeats 2000000 in
set_option maxRecDepth 100000 in
theorem kfX7_readBite (l : Launch) (dC : Nat → ClassId) (dI : Nat → Nat → Nat) (a0 : Nat) (a1 : Nat) (ur : Nat → Nat) (kr : Nat → ClassId) (up : Nat → Nat) (kp : Nat → ClassId) (r_r : TX7_r) (p_p : TX6_p) (sz : Nat) (B : Nat) (out : (Int32 × TX7_r × TX6_p)) (h : f_X7_readBite r_r p_p = some out) : Met l yX7_readBite vfX7_readBite ({ frames := 7, cells := 0, slots := 0, locals := 148 }) (PF (dC, dI) B [.ref a0, .ref a1] sz (bX7 a0 ur kr r_r (bX6 a1 up kp p_p [])) (tX7 kr (tX6 kp ([]))) []) (va_Qi (S := Unit) (fun (r : Int32) _ => r = out.1 ∧ (0 ≤ r.toInt ∧ r.toInt ≤ 1)) (fun _ t => BC (dC, dI) (va_A (bX7 a0 ur kr r_r (bX6 a1 up kp p_p [])) sz) (bX7 a0 ur kr out.2.1 (bX6 a1 up kp out.2.2 [])) [] t) (va_A (bX7 a0 ur kr r_r (bX6 a1 up kp p_p [])) sz)) 0 0 (va_A (bX7 a0 ur kr r_r (bX6 a1 up kp p_p [])) sz) := by
  refine Met.ofW (cc := cX7_readBite) (maxL := 4) (ret := (some .boolean)) (by decide) rfl ?_
  intro p e s m args below meth c s₁ B0 hml hv
  obtain ⟨rfl, hsz, hP, hK, hD0, hN, hBs, hE, hX⟩ := hv
  have hBA := PF_reg hD0 hBs
  have hx := B0.exec
  have hb := B0.bytes
  have hr := B0.returns
  have hts := atoms_spec (ws := vfX7_readBite) B0.pre
  have hown : s.vm.findClass RX7 = some m.cls := findClass_of_methodNamed B0.named
  have hlocks := B0.notSynchronized
  subst hsz
  have hD := hD0.self (sz := s.heap.size)
  generalize hAe : va_A (bX7 a0 ur kr r_r (bX6 a1 up kp p_p [])) s.heap.size = A at hD hBA ⊢
  have hA : ∀ q : Nat, s.heap.size ≤ q → A q := fun q h => by rw [← hAe]; exact Or.inr h
  have hS : va_S A s.heap s.heap [] := va_S.rf
  have hP : va_P (dC, dI) vwCl (bX7 a0 ur kr r_r (bX6 a1 up kp p_p [])) s.heap := hP
  have hl := lv_entry ([.ref a0, .ref a1]) (n := 4) (Nat.le_of_ble_eq_true rfl)
  rw [lg_entry_eq]
  generalize (lg_sl ([.ref a0, .ref a1]) ++ List.replicate (4 - (lg_sl ([.ref a0, .ref a1])).length) Slot.unset).toArray = ls at hl ⊢
  have hl : lv_has ls 4 [(0, .ref a0), (1, .ref a1)] := hl
  have hB : RB B s A := ⟨hBA, hBs⟩
  refine W_q (fun QQ hQQ => ?_)
  rw [f_X7_readBite] at h
  refine lv_aload_n hx hb dX7_readBite_0 rfl (lv_at hl 0 rfl) ?_
  refine lv_iconst (v := 0) hx hb dX7_readBite_1 (by decide) ?_
  refine lv_aload_n hx hb dX7_readBite_2 rfl (lv_at hl 1 rfl) ?_
  refine va_get (D := (dC, dI)) (ci := 4) (v := .int p_p.1) (C := RX6) (T := TX6) (N := 18) hx hb hts ifX7_readBite_X6 hown hK hP 4 rfl rfl 0 (by decide) (hts (.fieldLink RX7 82 "HookPier$Plan" "spots" "I") (List.mem_of_getElem? (i := 1) rfl)) (fun _ h9 => h9) rfl dX7_readBite_3 ?_
  refine lv_iconst (v := 1) hx hb dX7_readBite_6 (by decide) ?_
  refine lv_isub hx hb dX7_readBite_7 ?_
  obtain ⟨o8, eo8, h⟩ := bd_of h
  refine cl_i (wc := (bX7 a0 ur kr r_r [])) (wr := (bX6 a1 up kp p_p [])) (va_runV (As := [.int 0, .int (p_p.1 - (1 : Int32))]) (rest := []) ⟨hx, hb, hml, hown, hts⟩ (kfX7_takeWhole l dC dI a0 (0 : Int32) (p_p.1 - (1 : Int32)) ur kr r_r s.heap.size o8 eo8) (cwV 2 hts gfX7_readBite_0 rfl rfl rfl (by decide +kernel) ⟨(Nat.le_of_ble_eq_true rfl), (Nat.le_of_ble_eq_true rfl)⟩) (PV (hP.sub (ws' := (bX7 a0 ur kr r_r [])) [0, 1, 2, 3] rfl) (hK.sub (tys' := (tX7 kr ([]))) [0, 1, 2] rfl) (hD.sub (ws' := (bX7 a0 ur kr r_r [])) [0, 1, 2, 3] (by decide) rfl) hN 0 rfl rfl) rfl rfl hl.1 rfl (lv_room (Nat.le_of_ble_eq_true rfl)) dX7_readBite_8 ⟨(Nat.le_of_ble_eq_true rfl), (Nat.le_of_ble_eq_true rfl)⟩) hP hD hK hS hA [0, 1, 2, 3] [4, 5, 6, 7, 8, 9, 10, 11, 12, 13] rfl rfl (by decide) (by decide) (fun r8 _ H locs hw hP hD _ hS => ?_)
  obtain ⟨hw, br8⟩ := hw
  obtain rfl := hw
  have hP : va_P (dC, dI) vwCl (bX6 a1 up kp p_p (bX7 a0 ur kr o8.2 [])) H := hP
  have hD : va_D A (bX6 a1 up kp p_p (bX7 a0 ur kr o8.2 [])) := hD
  refine lv_if_ne (tgt := 16) hx hb dX7_readBite_11 (by decide) (fun c11 => ?_) (fun c11 => ?_)
  · have h := (if_neg c11).symm.trans h
    refine lv_aload_n hx hb dX7_readBite_16 rfl (lv_at hl 0 rfl) ?_
    refine va_get (D := (dC, dI)) (ci := 5) (v := .int o8.2.2.2.2.2.2.2.1) (C := RX7) (T := TX7) (N := 12) hx hb hts ifX7_readBite_X7 hown hK hP 10 rfl rfl 6 (by decide) (hts (.fieldLink RX7 31 "HookPier$Reader" "value" "I") (List.mem_of_getElem? (i := 6) rfl)) (fun _ h9 => h9) rfl dX7_readBite_17 ?_
    refine lv_istore_n (lv' := [(2, .int o8.2.2.2.2.2.2.2.1), (0, .ref a0), (1, .ref a1)]) hx hb dX7_readBite_20 rfl hl (by decide) rfl (fun ls hl => ?_)
    refine lv_aload_n hx hb dX7_readBite_21 rfl (lv_at hl 1 rfl) ?_
    obtain ⟨s22, hs22, xs22⟩ := hE.1 (RX7, 189, "fathoms", tx_fathoms) (List.mem_of_getElem? (i := 20) rfl)
    refine va_ldcS hx hb hown hs22 dX7_readBite_22 ?_
    obtain ⟨o24, eo24, h⟩ := bd_of h
    refine cl_i (wc := (bX7 a0 ur kr o8.2 [])) (wr := (bX6 a1 up kp p_p [])) (va_runV (As := [.ref s22]) (rest := []) ⟨hx, hb, hml, hown, hts⟩ (kfX7_takeWord l dC dI a0 s22 tx_fathoms ur kr o8.2 H.size B o24 eo24) (cwV 1 hts gfX7_readBite_1 rfl rfl rfl (by decide +kernel) ⟨(Nat.le_of_ble_eq_true rfl), (Nat.le_of_ble_eq_true rfl)⟩) (PVF (hP.sub (ws' := (bX7 a0 ur kr o8.2 [])) [10, 11, 12, 13] rfl) (hK.sub (tys' := (tX7 kr ([]))) [0, 1, 2] rfl) (hD.sub (ws' := (bX7 a0 ur kr o8.2 [])) [10, 11, 12, 13] (by decide) rfl) hN hS hB hE (S1c xs22 S1n) 0 rfl rfl) rfl rfl hl.1 rfl (lv_room (Nat.le_of_ble_eq_true rfl)) dX7_readBite_24 ⟨(Nat.le_of_ble_eq_true rfl), (Nat.le_of_ble_eq_true rfl)⟩) hP hD hK hS hA [10, 11, 12, 13] [0, 1, 2, 3, 4, 5, 6, 7, 8, 9] rfl rfl (by decide) (by decide) (fun r24 _ H locs hw hP hD _ hS => ?_)
    obtain ⟨hw, br24⟩ := hw
    obtain rfl := hw
    have hP : va_P (dC, dI) vwCl (bX6 a1 up kp p_p (bX7 a0 ur kr o24.2 [])) H := hP
    have hD : va_D A (bX6 a1 up kp p_p (bX7 a0 ur kr o24.2 [])) := hD
    refine lv_if_eq (tgt := 42) hx hb dX7_readBite_27 (by decide) (fun c27 => ?_) (fun c27 => ?_)
    · have h := (if_pos c27).symm.trans h
      refine lv_iconst (v := 0) hx hb dX7_readBite_42 (by decide) ?_
      obtain rfl := Option.some.inj h
      have hP9 := hP.sub (ws' := (bX7 a0 ur kr o24.2 (bX6 a1 up kp p_p []))) [10, 11, 12, 13, 0, 1, 2, 3, 4, 5, 6, 7, 8, 9] rfl
      have hD9 := hD.sub (ws' := (bX7 a0 ur kr o24.2 (bX6 a1 up kp p_p []))) [10, 11, 12, 13, 0, 1, 2, 3, 4, 5, 6, 7, 8, 9] (by decide) rfl
      have hK9 := hK.sub (tys' := []) [] rfl
      rw [hQQ]
      exact W.zret (v := (0 : Int32)) hx hb hr rfl (fun t ht hW => ⟨⟨(0 : Int32), (), rfl, ⟨rfl, (by decide)⟩, by rw [ht]; exact hP9, va_K.moved hW.alike hK9, hD9⟩, hS.F ht⟩) hS.2.2 dX7_readBite_43
    · have h := (if_neg c27).symm.trans h
      refine lv_aload_n hx hb dX7_readBite_30 rfl (lv_at hl 1 rfl) ?_
      refine lv_iconst (v := 1) hx hb dX7_readBite_31 (by decide) ?_
      refine lv_aload_n hx hb dX7_readBite_32 rfl (lv_at hl 2 rfl) ?_
      refine va_get (D := (dC, dI)) (ci := 4) (v := .int p_p.2.1) (C := RX6) (T := TX6) (N := 18) hx hb hts ifX7_readBite_X6 hown hK hP 0 rfl rfl 1 (by decide) (hts (.fieldLink RX7 139 "HookPier$Plan" "deep" "I") (List.mem_of_getElem? (i := 10) rfl)) (fun _ h9 => h9) rfl dX7_readBite_33 ?_
      obtain ⟨o36, eo36, h⟩ := bd_of h
      refine cl_i (wc := (bX7 a0 ur kr o24.2 [])) (wr := (bX6 a1 up kp p_p [])) (va_runV (As := [.int 1, .int p_p.2.1]) (rest := []) ⟨hx, hb, hml, hown, hts⟩ (kfX7_takeWhole l dC dI a0 (1 : Int32) p_p.2.1 ur kr o24.2 H.size o36 eo36) (cwV 2 hts gfX7_readBite_0 rfl rfl rfl (by decide +kernel) ⟨(Nat.le_of_ble_eq_true rfl), (Nat.le_of_ble_eq_true rfl)⟩) (PV (hP.sub (ws' := (bX7 a0 ur kr o24.2 [])) [10, 11, 12, 13] rfl) (hK.sub (tys' := (tX7 kr ([]))) [0, 1, 2] rfl) (hD.sub (ws' := (bX7 a0 ur kr o24.2 [])) [10, 11, 12, 13] (by decide) rfl) hN 0 rfl rfl) rfl rfl hl.1 rfl (lv_room (Nat.le_of_ble_eq_true rfl)) dX7_readBite_36 ⟨(Nat.le_of_ble_eq_true rfl), (Nat.le_of_ble_eq_true rfl)⟩) hP hD hK hS hA [10, 11, 12, 13] [0, 1, 2, 3, 4, 5, 6, 7, 8, 9] rfl rfl (by decide) (by decide) (fun r36 _ H locs hw hP hD _ hS => ?_)
      obtain ⟨hw, br36⟩ := hw
      obtain rfl := hw
      have hP : va_P (dC, dI) vwCl (bX6 a1 up kp p_p (bX7 a0 ur kr o36.2 [])) H := hP
      have hD : va_D A (bX6 a1 up kp p_p (bX7 a0 ur kr o36.2 [])) := hD
      refine lv_if_ne (tgt := 44) hx hb dX7_readBite_39 (by decide) (fun c39 => ?_) (fun c39 => ?_)
      · have h := (if_neg c39).symm.trans h
        refine lv_aload_n hx hb dX7_readBite_44 rfl (lv_at hl 1 rfl) ?_
        refine va_get (D := (dC, dI)) (ci := 5) (v := .int o36.2.2.2.2.2.2.2.1) (C := RX7) (T := TX7) (N := 12) hx hb hts ifX7_readBite_X7 hown hK hP 10 rfl rfl 6 (by decide) (hts (.fieldLink RX7 31 "HookPier$Reader" "value" "I") (List.mem_of_getElem? (i := 6) rfl)) (fun _ h9 => h9) rfl dX7_readBite_45 ?_
        refine lv_istore_n (lv' := [(3, .int o36.2.2.2.2.2.2.2.1), (2, .int o8.2.2.2.2.2.2.2.1), (0, .ref a0), (1, .ref a1)]) hx hb dX7_readBite_48 rfl hl (by decide) rfl (fun ls hl => ?_)
        refine lv_aload_n hx hb dX7_readBite_49 rfl (lv_at hl 2 rfl) ?_
        obtain ⟨s50, hs50, xs50⟩ := hE.1 (RX7, 88, "bait", tx_bait) (List.mem_of_getElem? (i := 5) rfl)
        refine va_ldcS hx hb hown hs50 dX7_readBite_50 ?_
        obtain ⟨o52, eo52, h⟩ := bd_of h
        refine cl_i (wc := (bX7 a0 ur kr o36.2 [])) (wr := (bX6 a1 up kp p_p [])) (va_runV (As := [.ref s50]) (rest := []) ⟨hx, hb, hml, hown, hts⟩ (kfX7_takeWord l dC dI a0 s50 tx_bait ur kr o36.2 H.size B o52 eo52) (cwV 1 hts gfX7_readBite_1 rfl rfl rfl (by decide +kernel) ⟨(Nat.le_of_ble_eq_true rfl), (Nat.le_of_ble_eq_true rfl)⟩) (PVF (hP.sub (ws' := (bX7 a0 ur kr o36.2 [])) [10, 11, 12, 13] rfl) (hK.sub (tys' := (tX7 kr ([]))) [0, 1, 2] rfl) (hD.sub (ws' := (bX7 a0 ur kr o36.2 [])) [10, 11, 12, 13] (by decide) rfl) hN hS hB hE (S1c xs50 S1n) 0 rfl rfl) rfl rfl hl.1 rfl (lv_room (Nat.le_of_ble_eq_true rfl)) dX7_readBite_52 ⟨(Nat.le_of_ble_eq_true rfl), (Nat.le_of_ble_eq_true rfl)⟩) hP hD hK hS hA [10, 11, 12, 13] [0, 1, 2, 3, 4, 5, 6, 7, 8, 9] rfl rfl (by decide) (by decide) (fun r52 _ H locs hw hP hD _ hS => ?_)
        obtain ⟨hw, br52⟩ := hw
        obtain rfl := hw
        have hP : va_P (dC, dI) vwCl (bX6 a1 up kp p_p (bX7 a0 ur kr o52.2 [])) H := hP
        have hD : va_D A (bX6 a1 up kp p_p (bX7 a0 ur kr o52.2 [])) := hD
        refine lv_if_eq (tgt := 65) hx hb dX7_readBite_55 (by decide) (fun c55 => ?_) (fun c55 => ?_)
        · have h := (if_pos c55).symm.trans h
          refine lv_iconst (v := 0) hx hb dX7_readBite_65 (by decide) ?_
          obtain rfl := Option.some.inj h
          have hP9 := hP.sub (ws' := (bX7 a0 ur kr o52.2 (bX6 a1 up kp p_p []))) [10, 11, 12, 13, 0, 1, 2, 3, 4, 5, 6, 7, 8, 9] rfl
          have hD9 := hD.sub (ws' := (bX7 a0 ur kr o52.2 (bX6 a1 up kp p_p []))) [10, 11, 12, 13, 0, 1, 2, 3, 4, 5, 6, 7, 8, 9] (by decide) rfl
          have hK9 := hK.sub (tys' := []) [] rfl
          rw [hQQ]
          exact W.zret (v := (0 : Int32)) hx hb hr rfl (fun t ht hW => ⟨⟨(0 : Int32), (), rfl, ⟨rfl, (by decide)⟩, by rw [ht]; exact hP9, va_K.moved hW.alike hK9, hD9⟩, hS.F ht⟩) hS.2.2 dX7_readBite_66
        · have h := (if_neg c55).symm.trans h
          refine lv_aload_n hx hb dX7_readBite_58 rfl (lv_at hl 2 rfl) ?_
          obtain ⟨o59, eo59, h⟩ := bd_of h
          refine cl_i (wc := (bX7 a0 ur kr o52.2 [])) (wr := (bX6 a1 up kp p_p [])) (va_runV (As := []) (rest := []) ⟨hx, hb, hml, hown, hts⟩ (kfX7_takeBait l dC dI a0 ur kr o52.2 H.size B o59 eo59) (cwV 0 hts gfX7_readBite_2 rfl rfl rfl (by decide +kernel) ⟨(Nat.le_of_ble_eq_true rfl), (Nat.le_of_ble_eq_true rfl)⟩) (PVF (hP.sub (ws' := (bX7 a0 ur kr o52.2 [])) [10, 11, 12, 13] rfl) (hK.sub (tys' := (tX7 kr ([]))) [0, 1, 2] rfl) (hD.sub (ws' := (bX7 a0 ur kr o52.2 [])) [10, 11, 12, 13] (by decide) rfl) hN hS hB hE S1n 0 rfl rfl) rfl rfl hl.1 rfl (lv_room (Nat.le_of_ble_eq_true rfl)) dX7_readBite_59 ⟨(Nat.le_of_ble_eq_true rfl), (Nat.le_of_ble_eq_true rfl)⟩) hP hD hK hS hA [10, 11, 12, 13] [0, 1, 2, 3, 4, 5, 6, 7, 8, 9] rfl rfl (by decide) (by decide) (fun r59 _ H locs hw hP hD _ hS => ?_)
          obtain ⟨hw, br59⟩ := hw
          obtain rfl := hw
          have hP : va_P (dC, dI) vwCl (bX6 a1 up kp p_p (bX7 a0 ur kr o59.2 [])) H := hP
          have hD : va_D A (bX6 a1 up kp p_p (bX7 a0 ur kr o59.2 [])) := hD
          refine lv_if_ne (tgt := 67) hx hb dX7_readBite_62 (by decide) (fun c62 => ?_) (fun c62 => ?_)
          · have h := (if_neg c62).symm.trans h
            refine lv_aload_n hx hb dX7_readBite_67 rfl (lv_at hl 3 rfl) ?_
            refine va_get (D := (dC, dI)) (ci := 4) (v := .ref (up 7)) (C := RX6) (T := TX6) (N := 18) hx hb hts ifX7_readBite_X6 hown hK hP 0 rfl rfl 16 (by decide) (hts (.fieldLink RX7 191 "HookPier$Plan" "bite" "[I") (List.mem_of_getElem? (i := 14) rfl)) (fun _ h9 => h9) rfl dX7_readBite_68 ?_
            refine lv_aload_n hx hb dX7_readBite_71 rfl (lv_at hl 3 rfl) ?_
            refine va_get (D := (dC, dI)) (ci := 4) (v := .int p_p.2.2.2.2.2.2.2.1) (C := RX6) (T := TX6) (N := 18) hx hb hts ifX7_readBite_X6 hown hK hP 0 rfl rfl 7 (by decide) (hts (.fieldLink RX7 123 "HookPier$Plan" "bites" "I") (List.mem_of_getElem? (i := 15) rfl)) (fun _ h9 => h9) rfl dX7_readBite_72 ?_
            refine lv_iload_n hx hb dX7_readBite_75 rfl (lv_at hl 1 rfl) ?_
            refine lv_iload_n hx hb dX7_readBite_76 rfl (lv_at hl 0 rfl) ?_
            refine lv_aload_n hx hb dX7_readBite_77 rfl (lv_at hl 2 rfl) ?_
            refine va_get (D := (dC, dI)) (ci := 5) (v := .int o59.2.2.2.2.2.2.2.1) (C := RX7) (T := TX7) (N := 12) hx hb hts ifX7_readBite_X7 hown hK hP 10 rfl rfl 6 (by decide) (hts (.fieldLink RX7 31 "HookPier$Reader" "value" "I") (List.mem_of_getElem? (i := 6) rfl)) (fun _ h9 => h9) rfl dX7_readBite_78 ?_
            obtain ⟨o81, eo81⟩ : ∃ o, o = f_X10_question o8.2.2.2.2.2.2.2.1 o36.2.2.2.2.2.2.2.1 o59.2.2.2.2.2.2.2.1 := ⟨_, rfl⟩
            have h := nm_of h o81 eo81
            refine cl_i (wc := []) (wr := (bX6 a1 up kp p_p (bX7 a0 ur kr o59.2 []))) (va_runSN (As := [.int o8.2.2.2.2.2.2.2.1, .int o36.2.2.2.2.2.2.2.1, .int o59.2.2.2.2.2.2.2.1]) (rest := [.int p_p.2.2.2.2.2.2.2.1, .ref (up 7)]) ⟨hx, hb, hml, hown, hts⟩ (kfX10_question l dC dI o8.2.2.2.2.2.2.2.1 o36.2.2.2.2.2.2.2.1 o59.2.2.2.2.2.2.2.1 H.size o81 eo81.symm) ⟨va_cnB 3 hts gfX7_readBite_3 rfl rfl rfl (hN.1 (.methodLinkNest RX7 193 yX10_question "HookPier") (List.mem_of_getElem? (i := 9) rfl)) (hts (.initialized RX10) (List.mem_of_getElem? (i := 16) rfl)) (by decide +kernel) ⟨(Nat.le_of_ble_eq_true rfl), (Nat.le_of_ble_eq_true rfl)⟩, (hts (.static yX10_question) (List.mem_of_getElem? (i := 17) rfl)), trivial⟩ (PS (hP.sub (ws' := []) [] rfl) (hK.sub (tys' := ([])) [] rfl) (hD.sub (ws' := []) [] (by decide) rfl) hN) rfl rfl hl.1 rfl (lv_room (Nat.le_of_ble_eq_true rfl)) dX7_readBite_81 ⟨(Nat.le_of_ble_eq_true rfl), (Nat.le_of_ble_eq_true rfl)⟩) hP hD hK hS hA [] [0, 1, 2, 3, 4, 5, 6, 7, 8, 9, 10, 11, 12, 13] rfl rfl (by decide) (by decide) (fun r81 _ H locs hw hP hD _ hS => ?_)
            obtain rfl := hw.symm
            have hP : va_P (dC, dI) vwCl (bX6 a1 up kp p_p (bX7 a0 ur kr o59.2 [])) H := hP
            have hD : va_D A (bX6 a1 up kp p_p (bX7 a0 ur kr o59.2 [])) := hD
            obtain ⟨hg84, h⟩ := gA_of h
            refine va_iast hx hb hK hP hD hS 8 10 rfl rfl hg84 dX7_readBite_84 (fun H locs hP hD hS => ?_)
            have hP : va_P (dC, dI) vwCl (bX6 a1 up kp (p_p.1, p_p.2.1, p_p.2.2.1, p_p.2.2.2.1, p_p.2.2.2.2.1, p_p.2.2.2.2.2.1, p_p.2.2.2.2.2.2.1, p_p.2.2.2.2.2.2.2.1, p_p.2.2.2.2.2.2.2.2.1, p_p.2.2.2.2.2.2.2.2.2.1, p_p.2.2.2.2.2.2.2.2.2.2.1, p_p.2.2.2.2.2.2.2.2.2.2.2.1, p_p.2.2.2.2.2.2.2.2.2.2.2.2.1, p_p.2.2.2.2.2.2.2.2.2.2.2.2.2.1, p_p.2.2.2.2.2.2.2.2.2.2.2.2.2.2.1, p_p.2.2.2.2.2.2.2.2.2.2.2.2.2.2.2.1, (upd p_p.2.2.2.2.2.2.2.2.2.2.2.2.2.2.2.2.1 (p_p.2.2.2.2.2.2.2.1).toNatClampNeg o81), p_p.2.2.2.2.2.2.2.2.2.2.2.2.2.2.2.2.2) (bX7 a0 ur kr o59.2 [])) H := hP
            have hD : va_D A (bX6 a1 up kp (p_p.1, p_p.2.1, p_p.2.2.1, p_p.2.2.2.1, p_p.2.2.2.2.1, p_p.2.2.2.2.2.1, p_p.2.2.2.2.2.2.1, p_p.2.2.2.2.2.2.2.1, p_p.2.2.2.2.2.2.2.2.1, p_p.2.2.2.2.2.2.2.2.2.1, p_p.2.2.2.2.2.2.2.2.2.2.1, p_p.2.2.2.2.2.2.2.2.2.2.2.1, p_p.2.2.2.2.2.2.2.2.2.2.2.2.1, p_p.2.2.2.2.2.2.2.2.2.2.2.2.2.1, p_p.2.2.2.2.2.2.2.2.2.2.2.2.2.2.1, p_p.2.2.2.2.2.2.2.2.2.2.2.2.2.2.2.1, (upd p_p.2.2.2.2.2.2.2.2.2.2.2.2.2.2.2.2.1 (p_p.2.2.2.2.2.2.2.1).toNatClampNeg o81), p_p.2.2.2.2.2.2.2.2.2.2.2.2.2.2.2.2.2) (bX7 a0 ur kr o59.2 [])) := hD
            refine lv_aload_n hx hb dX7_readBite_85 rfl (lv_at hl 2 rfl) ?_
            obtain ⟨o86, eo86, h⟩ := bd_of h
            refine cl_i (wc := (bX7 a0 ur kr o59.2 [])) (wr := (bX6 a1 up kp (p_p.1, p_p.2.1, p_p.2.2.1, p_p.2.2.2.1, p_p.2.2.2.2.1, p_p.2.2.2.2.2.1, p_p.2.2.2.2.2.2.1, p_p.2.2.2.2.2.2.2.1, p_p.2.2.2.2.2.2.2.2.1, p_p.2.2.2.2.2.2.2.2.2.1, p_p.2.2.2.2.2.2.2.2.2.2.1, p_p.2.2.2.2.2.2.2.2.2.2.2.1, p_p.2.2.2.2.2.2.2.2.2.2.2.2.1, p_p.2.2.2.2.2.2.2.2.2.2.2.2.2.1, p_p.2.2.2.2.2.2.2.2.2.2.2.2.2.2.1, p_p.2.2.2.2.2.2.2.2.2.2.2.2.2.2.2.1, (upd p_p.2.2.2.2.2.2.2.2.2.2.2.2.2.2.2.2.1 (p_p.2.2.2.2.2.2.2.1).toNatClampNeg o81), p_p.2.2.2.2.2.2.2.2.2.2.2.2.2.2.2.2.2) [])) (va_runV (As := []) (rest := []) ⟨hx, hb, hml, hown, hts⟩ (kfX7_takeYes l dC dI a0 ur kr o59.2 H.size B o86 eo86) (cwV 0 hts gfX7_readBite_4 rfl rfl rfl (by decide +kernel) ⟨(Nat.le_of_ble_eq_true rfl), (Nat.le_of_ble_eq_true rfl)⟩) (PVF (hP.sub (ws' := (bX7 a0 ur kr o59.2 [])) [10, 11, 12, 13] rfl) (hK.sub (tys' := (tX7 kr ([]))) [0, 1, 2] rfl) (hD.sub (ws' := (bX7 a0 ur kr o59.2 [])) [10, 11, 12, 13] (by decide) rfl) hN hS hB hE S1n 0 rfl rfl) rfl rfl hl.1 rfl (lv_room (Nat.le_of_ble_eq_true rfl)) dX7_readBite_86 ⟨(Nat.le_of_ble_eq_true rfl), (Nat.le_of_ble_eq_true rfl)⟩) hP hD hK hS hA [10, 11, 12, 13] [0, 1, 2, 3, 4, 5, 6, 7, 8, 9] rfl rfl (by decide) (by decide) (fun r86 _ H locs hw hP hD _ hS => ?_)
            obtain ⟨hw, br86⟩ := hw
            obtain rfl := hw
            have hP : va_P (dC, dI) vwCl (bX6 a1 up kp (p_p.1, p_p.2.1, p_p.2.2.1, p_p.2.2.2.1, p_p.2.2.2.2.1, p_p.2.2.2.2.2.1, p_p.2.2.2.2.2.2.1, p_p.2.2.2.2.2.2.2.1, p_p.2.2.2.2.2.2.2.2.1, p_p.2.2.2.2.2.2.2.2.2.1, p_p.2.2.2.2.2.2.2.2.2.2.1, p_p.2.2.2.2.2.2.2.2.2.2.2.1, p_p.2.2.2.2.2.2.2.2.2.2.2.2.1, p_p.2.2.2.2.2.2.2.2.2.2.2.2.2.1, p_p.2.2.2.2.2.2.2.2.2.2.2.2.2.2.1, p_p.2.2.2.2.2.2.2.2.2.2.2.2.2.2.2.1, (upd p_p.2.2.2.2.2.2.2.2.2.2.2.2.2.2.2.2.1 (p_p.2.2.2.2.2.2.2.1).toNatClampNeg o81), p_p.2.2.2.2.2.2.2.2.2.2.2.2.2.2.2.2.2) (bX7 a0 ur kr o86.2 [])) H := hP
            have hD : va_D A (bX6 a1 up kp (p_p.1, p_p.2.1, p_p.2.2.1, p_p.2.2.2.1, p_p.2.2.2.2.1, p_p.2.2.2.2.2.1, p_p.2.2.2.2.2.2.1, p_p.2.2.2.2.2.2.2.1, p_p.2.2.2.2.2.2.2.2.1, p_p.2.2.2.2.2.2.2.2.2.1, p_p.2.2.2.2.2.2.2.2.2.2.1, p_p.2.2.2.2.2.2.2.2.2.2.2.1, p_p.2.2.2.2.2.2.2.2.2.2.2.2.1, p_p.2.2.2.2.2.2.2.2.2.2.2.2.2.1, p_p.2.2.2.2.2.2.2.2.2.2.2.2.2.2.1, p_p.2.2.2.2.2.2.2.2.2.2.2.2.2.2.2.1, (upd p_p.2.2.2.2.2.2.2.2.2.2.2.2.2.2.2.2.1 (p_p.2.2.2.2.2.2.2.1).toNatClampNeg o81), p_p.2.2.2.2.2.2.2.2.2.2.2.2.2.2.2.2.2) (bX7 a0 ur kr o86.2 [])) := hD
            refine lv_if_ne (tgt := 94) hx hb dX7_readBite_89 (by decide) (fun c89 => ?_) (fun c89 => ?_)
            · have h := (if_neg c89).symm.trans h
              refine lv_aload_n hx hb dX7_readBite_94 rfl (lv_at hl 3 rfl) ?_
              refine va_get (D := (dC, dI)) (ci := 4) (v := .ref (up 8)) (C := RX6) (T := TX6) (N := 18) hx hb hts ifX7_readBite_X6 hown hK hP 0 rfl rfl 17 (by decide) (hts (.fieldLink RX7 200 "HookPier$Plan" "bit" "[Z") (List.mem_of_getElem? (i := 21) rfl)) (fun _ h9 => h9) rfl dX7_readBite_95 ?_
              refine lv_aload_n hx hb dX7_readBite_98 rfl (lv_at hl 3 rfl) ?_
              refine va_get (D := (dC, dI)) (ci := 4) (v := .int p_p.2.2.2.2.2.2.2.1) (C := RX6) (T := TX6) (N := 18) hx hb hts ifX7_readBite_X6 hown hK hP 0 rfl rfl 7 (by decide) (hts (.fieldLink RX7 123 "HookPier$Plan" "bites" "I") (List.mem_of_getElem? (i := 15) rfl)) (fun _ h9 => h9) rfl dX7_readBite_99 ?_
              refine lv_aload_n hx hb dX7_readBite_102 rfl (lv_at hl 2 rfl) ?_
              refine va_get (D := (dC, dI)) (ci := 5) (v := .int o86.2.2.2.2.2.2.2.1) (C := RX7) (T := TX7) (N := 12) hx hb hts ifX7_readBite_X7 hown hK hP 10 rfl rfl 6 (by decide) (hts (.fieldLink RX7 31 "HookPier$Reader" "value" "I") (List.mem_of_getElem? (i := 6) rfl)) (fun _ h9 => h9) rfl dX7_readBite_103 ?_
              refine lv_iconst (v := 1) hx hb dX7_readBite_106 (by decide) ?_
              have J115 : ∀ (v115_t2 : Int32) (H : Heap) (locs : List Loc) (ls : Array Slot), f_X7_readBite_J115 p_p o81 o86 v115_t2 = some out → 0 ≤ v115_t2.toInt ∧ v115_t2.toInt ≤ 1 → va_P (dC, dI) vwCl (bX6 a1 up kp (p_p.1, p_p.2.1, p_p.2.2.1, p_p.2.2.2.1, p_p.2.2.2.2.1, p_p.2.2.2.2.2.1, p_p.2.2.2.2.2.2.1, p_p.2.2.2.2.2.2.2.1, p_p.2.2.2.2.2.2.2.2.1, p_p.2.2.2.2.2.2.2.2.2.1, p_p.2.2.2.2.2.2.2.2.2.2.1, p_p.2.2.2.2.2.2.2.2.2.2.2.1, p_p.2.2.2.2.2.2.2.2.2.2.2.2.1, p_p.2.2.2.2.2.2.2.2.2.2.2.2.2.1, p_p.2.2.2.2.2.2.2.2.2.2.2.2.2.2.1, p_p.2.2.2.2.2.2.2.2.2.2.2.2.2.2.2.1, (upd p_p.2.2.2.2.2.2.2.2.2.2.2.2.2.2.2.2.1 (p_p.2.2.2.2.2.2.2.1).toNatClampNeg o81), p_p.2.2.2.2.2.2.2.2.2.2.2.2.2.2.2.2.2) (bX7 a0 ur kr o86.2 [])) H → va_D A (bX6 a1 up kp (p_p.1, p_p.2.1, p_p.2.2.1, p_p.2.2.2.1, p_p.2.2.2.2.1, p_p.2.2.2.2.2.1, p_p.2.2.2.2.2.2.1, p_p.2.2.2.2.2.2.2.1, p_p.2.2.2.2.2.2.2.2.1, p_p.2.2.2.2.2.2.2.2.2.1, p_p.2.2.2.2.2.2.2.2.2.2.1, p_p.2.2.2.2.2.2.2.2.2.2.2.1, p_p.2.2.2.2.2.2.2.2.2.2.2.2.1, p_p.2.2.2.2.2.2.2.2.2.2.2.2.2.1, p_p.2.2.2.2.2.2.2.2.2.2.2.2.2.2.1, p_p.2.2.2.2.2.2.2.2.2.2.2.2.2.2.2.1, (upd p_p.2.2.2.2.2.2.2.2.2.2.2.2.2.2.2.2.1 (p_p.2.2.2.2.2.2.2.1).toNatClampNeg o81), p_p.2.2.2.2.2.2.2.2.2.2.2.2.2.2.2.2.2) (bX7 a0 ur kr o86.2 [])) → va_S A s.heap H locs → lv_has ls 4 [(1, .ref a1)] → W p l e (headSpec vfX7_readBite { frames := 7, cells := 0, slots := 0, locals := 148 }).room s m ([.ref a0, .ref a1]).toArray below meth c H locs 0 0 QQ (F0 m 115 ls [.int v115_t2, .int p_p.2.2.2.2.2.2.2.1, .ref (up 8)]) := by
                intro v115_t2 H locs ls h zb_v115_t2 hP hD hS hl
                rw [f_X7_readBite_J115] at h
                obtain ⟨hg115, h⟩ := gA_of h
                refine va_zast hx hb hK hP hD hS 9 11 rfl rfl hg115 dX7_readBite_115 (fun H locs hP hD hS => ?_)
                have hP : va_P (dC, dI) vwCl (bX6 a1 up kp (p_p.1, p_p.2.1, p_p.2.2.1, p_p.2.2.2.1, p_p.2.2.2.2.1, p_p.2.2.2.2.2.1, p_p.2.2.2.2.2.2.1, p_p.2.2.2.2.2.2.2.1, p_p.2.2.2.2.2.2.2.2.1, p_p.2.2.2.2.2.2.2.2.2.1, p_p.2.2.2.2.2.2.2.2.2.2.1, p_p.2.2.2.2.2.2.2.2.2.2.2.1, p_p.2.2.2.2.2.2.2.2.2.2.2.2.1, p_p.2.2.2.2.2.2.2.2.2.2.2.2.2.1, p_p.2.2.2.2.2.2.2.2.2.2.2.2.2.2.1, p_p.2.2.2.2.2.2.2.2.2.2.2.2.2.2.2.1, (upd p_p.2.2.2.2.2.2.2.2.2.2.2.2.2.2.2.2.1 (p_p.2.2.2.2.2.2.2.1).toNatClampNeg o81), (upd p_p.2.2.2.2.2.2.2.2.2.2.2.2.2.2.2.2.2 (p_p.2.2.2.2.2.2.2.1).toNatClampNeg (vp_nar .boolean v115_t2))) (bX7 a0 ur kr o86.2 [])) H := hP
                have hD : va_D A (bX6 a1 up kp (p_p.1, p_p.2.1, p_p.2.2.1, p_p.2.2.2.1, p_p.2.2.2.2.1, p_p.2.2.2.2.2.1, p_p.2.2.2.2.2.2.1, p_p.2.2.2.2.2.2.2.1, p_p.2.2.2.2.2.2.2.2.1, p_p.2.2.2.2.2.2.2.2.2.1, p_p.2.2.2.2.2.2.2.2.2.2.1, p_p.2.2.2.2.2.2.2.2.2.2.2.1, p_p.2.2.2.2.2.2.2.2.2.2.2.2.1, p_p.2.2.2.2.2.2.2.2.2.2.2.2.2.1, p_p.2.2.2.2.2.2.2.2.2.2.2.2.2.2.1, p_p.2.2.2.2.2.2.2.2.2.2.2.2.2.2.2.1, (upd p_p.2.2.2.2.2.2.2.2.2.2.2.2.2.2.2.2.1 (p_p.2.2.2.2.2.2.2.1).toNatClampNeg o81), (upd p_p.2.2.2.2.2.2.2.2.2.2.2.2.2.2.2.2.2 (p_p.2.2.2.2.2.2.2.1).toNatClampNeg (vp_nar .boolean v115_t2))) (bX7 a0 ur kr o86.2 [])) := hD
                refine lv_aload_n hx hb dX7_readBite_116 rfl (lv_at hl 0 rfl) ?_
                refine lv_dup hx hb dX7_readBite_117 rfl ?_
                refine va_get (D := (dC, dI)) (ci := 4) (v := .int p_p.2.2.2.2.2.2.2.1) (C := RX6) (T := TX6) (N := 18) hx hb hts ifX7_readBite_X6 hown hK hP 0 rfl rfl 7 (by decide) (hts (.fieldLink RX7 123 "HookPier$Plan" "bites" "I") (List.mem_of_getElem? (i := 15) rfl)) (fun _ h9 => h9) rfl dX7_readBite_118 ?_
                refine lv_iconst (v := 1) hx hb dX7_readBite_121 (by decide) ?_
                refine lv_iadd hx hb dX7_readBite_122 ?_
                refine va_put (D := (dC, dI)) (ci := 4) (v := .int (p_p.2.2.2.2.2.2.2.1 + (1 : Int32))) (ty := .int) (C := RX6) (T := TX6) (N := 18) hx hb hts ifX7_readBite_X6 tyX6 tyX6_ok nmX6 hown hK hP hD hS 0 rfl rfl 7 (by decide) (hts (.fieldLink RX7 123 "HookPier$Plan" "bites" "I") (List.mem_of_getElem? (i := 15) rfl)) (fun _ h9 => h9) rfl (by decide +kernel) rfl rfl (Nat.le_of_ble_eq_true rfl) dX7_readBite_123 (fun H locs hP hD hS => ?_)
                have hP : va_P (dC, dI) vwCl (bX6 a1 up kp (p_p.1, p_p.2.1, p_p.2.2.1, p_p.2.2.2.1, p_p.2.2.2.2.1, p_p.2.2.2.2.2.1, p_p.2.2.2.2.2.2.1, (p_p.2.2.2.2.2.2.2.1 + (1 : Int32)), p_p.2.2.2.2.2.2.2.2.1, p_p.2.2.2.2.2.2.2.2.2.1, p_p.2.2.2.2.2.2.2.2.2.2.1, p_p.2.2.2.2.2.2.2.2.2.2.2.1, p_p.2.2.2.2.2.2.2.2.2.2.2.2.1, p_p.2.2.2.2.2.2.2.2.2.2.2.2.2.1, p_p.2.2.2.2.2.2.2.2.2.2.2.2.2.2.1, p_p.2.2.2.2.2.2.2.2.2.2.2.2.2.2.2.1, (upd p_p.2.2.2.2.2.2.2.2.2.2.2.2.2.2.2.2.1 (p_p.2.2.2.2.2.2.2.1).toNatClampNeg o81), (upd p_p.2.2.2.2.2.2.2.2.2.2.2.2.2.2.2.2.2 (p_p.2.2.2.2.2.2.2.1).toNatClampNeg (vp_nar .boolean v115_t2))) (bX7 a0 ur kr o86.2 [])) H := hP
                have hD : va_D A (bX6 a1 up kp (p_p.1, p_p.2.1, p_p.2.2.1, p_p.2.2.2.1, p_p.2.2.2.2.1, p_p.2.2.2.2.2.1, p_p.2.2.2.2.2.2.1, (p_p.2.2.2.2.2.2.2.1 + (1 : Int32)), p_p.2.2.2.2.2.2.2.2.1, p_p.2.2.2.2.2.2.2.2.2.1, p_p.2.2.2.2.2.2.2.2.2.2.1, p_p.2.2.2.2.2.2.2.2.2.2.2.1, p_p.2.2.2.2.2.2.2.2.2.2.2.2.1, p_p.2.2.2.2.2.2.2.2.2.2.2.2.2.1, p_p.2.2.2.2.2.2.2.2.2.2.2.2.2.2.1, p_p.2.2.2.2.2.2.2.2.2.2.2.2.2.2.2.1, (upd p_p.2.2.2.2.2.2.2.2.2.2.2.2.2.2.2.2.1 (p_p.2.2.2.2.2.2.2.1).toNatClampNeg o81), (upd p_p.2.2.2.2.2.2.2.2.2.2.2.2.2.2.2.2.2 (p_p.2.2.2.2.2.2.2.1).toNatClampNeg (vp_nar .boolean v115_t2))) (bX7 a0 ur kr o86.2 [])) := hD
                refine lv_iconst (v := 1) hx hb dX7_readBite_126 (by decide) ?_
                obtain rfl := Option.some.inj h
                have hP9 := hP.sub (ws' := (bX7 a0 ur kr o86.2 (bX6 a1 up kp (p_p.1, p_p.2.1, p_p.2.2.1, p_p.2.2.2.1, p_p.2.2.2.2.1, p_p.2.2.2.2.2.1, p_p.2.2.2.2.2.2.1, (p_p.2.2.2.2.2.2.2.1 + (1 : Int32)), p_p.2.2.2.2.2.2.2.2.1, p_p.2.2.2.2.2.2.2.2.2.1, p_p.2.2.2.2.2.2.2.2.2.2.1, p_p.2.2.2.2.2.2.2.2.2.2.2.1, p_p.2.2.2.2.2.2.2.2.2.2.2.2.1, p_p.2.2.2.2.2.2.2.2.2.2.2.2.2.1, p_p.2.2.2.2.2.2.2.2.2.2.2.2.2.2.1, p_p.2.2.2.2.2.2.2.2.2.2.2.2.2.2.2.1, (upd p_p.2.2.2.2.2.2.2.2.2.2.2.2.2.2.2.2.1 (p_p.2.2.2.2.2.2.2.1).toNatClampNeg o81), (upd p_p.2.2.2.2.2.2.2.2.2.2.2.2.2.2.2.2.2 (p_p.2.2.2.2.2.2.2.1).toNatClampNeg (vp_nar .boolean v115_t2))) []))) [10, 11, 12, 13, 0, 1, 2, 3, 4, 5, 6, 7, 8, 9] rfl
                have hD9 := hD.sub (ws' := (bX7 a0 ur kr o86.2 (bX6 a1 up kp (p_p.1, p_p.2.1, p_p.2.2.1, p_p.2.2.2.1, p_p.2.2.2.2.1, p_p.2.2.2.2.2.1, p_p.2.2.2.2.2.2.1, (p_p.2.2.2.2.2.2.2.1 + (1 : Int32)), p_p.2.2.2.2.2.2.2.2.1, p_p.2.2.2.2.2.2.2.2.2.1, p_p.2.2.2.2.2.2.2.2.2.2.1, p_p.2.2.2.2.2.2.2.2.2.2.2.1, p_p.2.2.2.2.2.2.2.2.2.2.2.2.1, p_p.2.2.2.2.2.2.2.2.2.2.2.2.2.1, p_p.2.2.2.2.2.2.2.2.2.2.2.2.2.2.1, p_p.2.2.2.2.2.2.2.2.2.2.2.2.2.2.2.1, (upd p_p.2.2.2.2.2.2.2.2.2.2.2.2.2.2.2.2.1 (p_p.2.2.2.2.2.2.2.1).toNatClampNeg o81), (upd p_p.2.2.2.2.2.2.2.2.2.2.2.2.2.2.2.2.2 (p_p.2.2.2.2.2.2.2.1).toNatClampNeg (vp_nar .boolean v115_t2))) []))) [10, 11, 12, 13, 0, 1, 2, 3, 4, 5, 6, 7, 8, 9] (by decide) rfl
                have hK9 := hK.sub (tys' := []) [] rfl
                rw [hQQ]
                exact W.zret (v := (1 : Int32)) hx hb hr rfl (fun t ht hW => ⟨⟨(1 : Int32), (), rfl, ⟨rfl, (by decide)⟩, by rw [ht]; exact hP9, va_K.moved hW.alike hK9, hD9⟩, hS.F ht⟩) hS.2.2 dX7_readBite_127
              refine lv_icmp_ne (tgt := 114) hx hb dX7_readBite_107 (by decide) (fun c107 => ?_) (fun c107 => ?_)
              · have h := (if_neg c107).symm.trans h
                refine lv_iconst (v := 0) hx hb dX7_readBite_114 (by decide) ?_
                exact J115 (0 : Int32) H _ ls h (by decide) hP hD hS (lv_sub hl [3] rfl)
              · have h := (if_pos c107).symm.trans h
                refine lv_iconst (v := 1) hx hb dX7_readBite_110 (by decide) ?_
                refine lv_goto (tgt := 115) hx hb dX7_readBite_111 (by decide) ?_
                exact J115 (1 : Int32) H _ ls h (by decide) hP hD hS (lv_sub hl [3] rfl)
            · have h := (if_pos c89).symm.trans h
              refine lv_iconst (v := 0) hx hb dX7_readBite_92 (by decide) ?_
              obtain rfl := Option.some.inj h
              have hP9 := hP.sub (ws' := (bX7 a0 ur kr o86.2 (bX6 a1 up kp (p_p.1, p_p.2.1, p_p.2.2.1, p_p.2.2.2.1, p_p.2.2.2.2.1, p_p.2.2.2.2.2.1, p_p.2.2.2.2.2.2.1, p_p.2.2.2.2.2.2.2.1, p_p.2.2.2.2.2.2.2.2.1, p_p.2.2.2.2.2.2.2.2.2.1, p_p.2.2.2.2.2.2.2.2.2.2.1, p_p.2.2.2.2.2.2.2.2.2.2.2.1, p_p.2.2.2.2.2.2.2.2.2.2.2.2.1, p_p.2.2.2.2.2.2.2.2.2.2.2.2.2.1, p_p.2.2.2.2.2.2.2.2.2.2.2.2.2.2.1, p_p.2.2.2.2.2.2.2.2.2.2.2.2.2.2.2.1, (upd p_p.2.2.2.2.2.2.2.2.2.2.2.2.2.2.2.2.1 (p_p.2.2.2.2.2.2.2.1).toNatClampNeg o81), p_p.2.2.2.2.2.2.2.2.2.2.2.2.2.2.2.2.2) []))) [10, 11, 12, 13, 0, 1, 2, 3, 4, 5, 6, 7, 8, 9] rfl
              have hD9 := hD.sub (ws' := (bX7 a0 ur kr o86.2 (bX6 a1 up kp (p_p.1, p_p.2.1, p_p.2.2.1, p_p.2.2.2.1, p_p.2.2.2.2.1, p_p.2.2.2.2.2.1, p_p.2.2.2.2.2.2.1, p_p.2.2.2.2.2.2.2.1, p_p.2.2.2.2.2.2.2.2.1, p_p.2.2.2.2.2.2.2.2.2.1, p_p.2.2.2.2.2.2.2.2.2.2.1, p_p.2.2.2.2.2.2.2.2.2.2.2.1, p_p.2.2.2.2.2.2.2.2.2.2.2.2.1, p_p.2.2.2.2.2.2.2.2.2.2.2.2.2.1, p_p.2.2.2.2.2.2.2.2.2.2.2.2.2.2.1, p_p.2.2.2.2.2.2.2.2.2.2.2.2.2.2.2.1, (upd p_p.2.2.2.2.2.2.2.2.2.2.2.2.2.2.2.2.1 (p_p.2.2.2.2.2.2.2.1).toNatClampNeg o81), p_p.2.2.2.2.2.2.2.2.2.2.2.2.2.2.2.2.2) []))) [10, 11, 12, 13, 0, 1, 2, 3, 4, 5, 6, 7, 8, 9] (by decide) rfl
              have hK9 := hK.sub (tys' := []) [] rfl
              rw [hQQ]
              exact W.zret (v := (0 : Int32)) hx hb hr rfl (fun t ht hW => ⟨⟨(0 : Int32), (), rfl, ⟨rfl, (by decide)⟩, by rw [ht]; exact hP9, va_K.moved hW.alike hK9, hD9⟩, hS.F ht⟩) hS.2.2 dX7_readBite_93
          · have h := (if_pos c62).symm.trans h
            refine lv_iconst (v := 0) hx hb dX7_readBite_65 (by decide) ?_
            obtain rfl := Option.some.inj h
            have hP9 := hP.sub (ws' := (bX7 a0 ur kr o59.2 (bX6 a1 up kp p_p []))) [10, 11, 12, 13, 0, 1, 2, 3, 4, 5, 6, 7, 8, 9] rfl
            have hD9 := hD.sub (ws' := (bX7 a0 ur kr o59.2 (bX6 a1 up kp p_p []))) [10, 11, 12, 13, 0, 1, 2, 3, 4, 5, 6, 7, 8, 9] (by decide) rfl
            have hK9 := hK.sub (tys' := []) [] rfl
            rw [hQQ]
            exact W.zret (v := (0 : Int32)) hx hb hr rfl (fun t ht hW => ⟨⟨(0 : Int32), (), rfl, ⟨rfl, (by decide)⟩, by rw [ht]; exact hP9, va_K.moved hW.alike hK9, hD9⟩, hS.F ht⟩) hS.2.2 dX7_readBite_66
      · have h := (if_pos c39).symm.trans h
        refine lv_iconst (v := 0) hx hb dX7_readBite_42 (by decide) ?_
        obtain rfl := Option.some.inj h
        have hP9 := hP.sub (ws' := (bX7 a0 ur kr o36.2 (bX6 a1 up kp p_p []))) [10, 11, 12, 13, 0, 1, 2, 3, 4, 5, 6, 7, 8, 9] rfl
        have hD9 := hD.sub (ws' := (bX7 a0 ur kr o36.2 (bX6 a1 up kp p_p []))) [10, 11, 12, 13, 0, 1, 2, 3, 4, 5, 6, 7, 8, 9] (by decide) rfl
        have hK9 := hK.sub (tys' := []) [] rfl
        rw [hQQ]
        exact W.zret (v := (0 : Int32)) hx hb hr rfl (fun t ht hW => ⟨⟨(0 : Int32), (), rfl, ⟨rfl, (by decide)⟩, by rw [ht]; exact hP9, va_K.moved hW.alike hK9, hD9⟩, hS.F ht⟩) hS.2.2 dX7_readBite_43
  · have h := (if_pos c11).symm.trans h
    refine lv_iconst (v := 0) hx hb dX7_readBite_14 (by decide) ?_
    obtain rfl := Option.some.inj h
    have hP9 := hP.sub (ws' := (bX7 a0 ur kr o8.2 (bX6 a1 up kp p_p []))) [10, 11, 12, 13, 0, 1, 2, 3, 4, 5, 6, 7, 8, 9] rfl
    have hD9 := hD.sub (ws' := (bX7 a0 ur kr o8.2 (bX6 a1 up kp p_p []))) [10, 11, 12, 13, 0, 1, 2, 3, 4, 5, 6, 7, 8, 9] (by decide) rfl
    have hK9 := hK.sub (tys' := []) [] rfl
    rw [hQQ]
    exact W.zret (v := (0 : Int32)) hx hb hr rfl (fun t ht hW => ⟨⟨(0 : Int32), (), rfl, ⟨rfl, (by decide)⟩, by rw [ht]; exact hP9, va_K.moved hW.alike hK9, hD9⟩, hS.F ht⟩) hS.2.2 dX7_readBite_15
theorem dX7_readLine_0 : decode cX7_readLine 0 = .ok (.aload_n 0, 1) := by decide +kernel
theorem dX7_readLine_1 : decode cX7_readLine 1 = .ok (.ldc 76, 2) := by decide +kernel
theorem dX7_readLine_10 : decode cX7_readLine 10 = .ok (.getfield 82, 3) := by decide +kernel
theorem dX7_readLine_101 : decode cX7_readLine 101 = .ok (.ifCond .eq 15, 3) := by decide +kernel
theorem dX7_readLine_104 : decode cX7_readLine 104 = .ok (.aload_n 0, 1) := by decide +kernel
theorem dX7_readLine_105 : decode cX7_readLine 105 = .ok (.aload_n 1, 1) := by decide +kernel
theorem dX7_readLine_106 : decode cX7_readLine 106 = .ok (.invokevirtual 102, 3) := by decide +kernel
theorem dX7_readLine_109 : decode cX7_readLine 109 = .ok (.ifCond .eq 7, 3) := by decide +kernel
theorem dX7_readLine_112 : decode cX7_readLine 112 = .ok (.iconst 1, 1) := by decide +kernel
theorem dX7_readLine_113 : decode cX7_readLine 113 = .ok (.goto 4, 3) := by decide +kernel
theorem dX7_readLine_116 : decode cX7_readLine 116 = .ok (.iconst 0, 1) := by decide +kernel
theorem dX7_readLine_117 : decode cX7_readLine 117 = .ok (.ireturn, 1) := by decide +kernel
theorem dX7_readLine_118 : decode cX7_readLine 118 = .ok (.aload_n 0, 1) := by decide +kernel
theorem dX7_readLine_119 : decode cX7_readLine 119 = .ok (.ldc 105, 2) := by decide +kernel
theorem dX7_readLine_121 : decode cX7_readLine 121 = .ok (.invokevirtual 78, 3) := by decide +kernel
theorem dX7_readLine_124 : decode cX7_readLine 124 = .ok (.ifCond .eq 39, 3) := by decide +kernel
theorem dX7_readLine_127 : decode cX7_readLine 127 = .ok (.aload_n 0, 1) := by decide +kernel
theorem dX7_readLine_128 : decode cX7_readLine 128 = .ok (.aload_n 1, 1) := by decide +kernel
theorem dX7_readLine_129 : decode cX7_readLine 129 = .ok (.aload_n 1, 1) := by decide +kernel
theorem dX7_readLine_13 : decode cX7_readLine 13 = .ok (.ifCond .ne 11, 3) := by decide +kernel
theorem dX7_readLine_130 : decode cX7_readLine 130 = .ok (.getfield 107, 3) := by decide +kernel
theorem dX7_readLine_133 : decode cX7_readLine 133 = .ok (.bipush 6, 2) := by decide +kernel
theorem dX7_readLine_135 : decode cX7_readLine 135 = .ok (.if_icmp .ge 7, 3) := by decide +kernel
theorem dX7_readLine_138 : decode cX7_readLine 138 = .ok (.iconst 0, 1) := by decide +kernel
theorem dX7_readLine_139 : decode cX7_readLine 139 = .ok (.goto 4, 3) := by decide +kernel
theorem dX7_readLine_142 : decode cX7_readLine 142 = .ok (.iconst 5, 1) := by decide +kernel
theorem dX7_readLine_143 : decode cX7_readLine 143 = .ok (.invokevirtual 90, 3) := by decide +kernel
theorem dX7_readLine_146 : decode cX7_readLine 146 = .ok (.ifCond .eq 15, 3) := by decide +kernel
theorem dX7_readLine_149 : decode cX7_readLine 149 = .ok (.aload_n 0, 1) := by decide +kernel
theorem dX7_readLine_150 : decode cX7_readLine 150 = .ok (.aload_n 1, 1) := by decide +kernel
theorem dX7_readLine_151 : decode cX7_readLine 151 = .ok (.invokevirtual 110, 3) := by decide +kernel
theorem dX7_readLine_154 : decode cX7_readLine 154 = .ok (.ifCond .eq 7, 3) := by decide +kernel
theorem dX7_readLine_157 : decode cX7_readLine 157 = .ok (.iconst 1, 1) := by decide +kernel
theorem dX7_readLine_158 : decode cX7_readLine 158 = .ok (.goto 4, 3) := by decide +kernel
theorem dX7_readLine_16 : decode cX7_readLine 16 = .ok (.aload_n 0, 1) := by decide +kernel
theorem dX7_readLine_161 : decode cX7_readLine 161 = .ok (.iconst 0, 1) := by decide +kernel
theorem dX7_readLine_162 : decode cX7_readLine 162 = .ok (.ireturn, 1) := by decide +kernel
theorem dX7_readLine_163 : decode cX7_readLine 163 = .ok (.aload_n 0, 1) := by decide +kernel
theorem dX7_readLine_164 : decode cX7_readLine 164 = .ok (.ldc 113, 2) := by decide +kernel
theorem dX7_readLine_166 : decode cX7_readLine 166 = .ok (.invokevirtual 78, 3) := by decide +kernel
theorem dX7_readLine_169 : decode cX7_readLine 169 = .ok (.ifCond .eq 38, 3) := by decide +kernel
theorem dX7_readLine_17 : decode cX7_readLine 17 = .ok (.aload_n 1, 1) := by decide +kernel
theorem dX7_readLine_172 : decode cX7_readLine 172 = .ok (.aload_n 0, 1) := by decide +kernel
theorem dX7_readLine_173 : decode cX7_readLine 173 = .ok (.aload_n 1, 1) := by decide +kernel
theorem dX7_readLine_174 : decode cX7_readLine 174 = .ok (.aload_n 1, 1) := by decide +kernel
theorem dX7_readLine_175 : decode cX7_readLine 175 = .ok (.getfield 115, 3) := by decide +kernel
theorem dX7_readLine_178 : decode cX7_readLine 178 = .ok (.iconst (-1), 1) := by decide +kernel
theorem dX7_readLine_179 : decode cX7_readLine 179 = .ok (.if_icmp .ne 7, 3) := by decide +kernel
theorem dX7_readLine_18 : decode cX7_readLine 18 = .ok (.invokevirtual 85, 3) := by decide +kernel
theorem dX7_readLine_182 : decode cX7_readLine 182 = .ok (.iconst 0, 1) := by decide +kernel
theorem dX7_readLine_183 : decode cX7_readLine 183 = .ok (.goto 4, 3) := by decide +kernel
theorem dX7_readLine_186 : decode cX7_readLine 186 = .ok (.iconst 3, 1) := by decide +kernel
theorem dX7_readLine_187 : decode cX7_readLine 187 = .ok (.invokevirtual 90, 3) := by decide +kernel
theorem dX7_readLine_190 : decode cX7_readLine 190 = .ok (.ifCond .eq 15, 3) := by decide +kernel
theorem dX7_readLine_193 : decode cX7_readLine 193 = .ok (.aload_n 0, 1) := by decide +kernel
theorem dX7_readLine_194 : decode cX7_readLine 194 = .ok (.aload_n 1, 1) := by decide +kernel
theorem dX7_readLine_195 : decode cX7_readLine 195 = .ok (.invokevirtual 118, 3) := by decide +kernel
theorem dX7_readLine_198 : decode cX7_readLine 198 = .ok (.ifCond .eq 7, 3) := by decide +kernel
theorem dX7_readLine_201 : decode cX7_readLine 201 = .ok (.iconst 1, 1) := by decide +kernel
theorem dX7_readLine_202 : decode cX7_readLine 202 = .ok (.goto 4, 3) := by decide +kernel
theorem dX7_readLine_205 : decode cX7_readLine 205 = .ok (.iconst 0, 1) := by decide +kernel
theorem dX7_readLine_206 : decode cX7_readLine 206 = .ok (.ireturn, 1) := by decide +kernel
theorem dX7_readLine_207 : decode cX7_readLine 207 = .ok (.aload_n 0, 1) := by decide +kernel
theorem dX7_readLine_208 : decode cX7_readLine 208 = .ok (.ldc 121, 2) := by decide +kernel
theorem dX7_readLine_21 : decode cX7_readLine 21 = .ok (.goto 8, 3) := by decide +kernel
theorem dX7_readLine_210 : decode cX7_readLine 210 = .ok (.invokevirtual 78, 3) := by decide +kernel
theorem dX7_readLine_213 : decode cX7_readLine 213 = .ok (.ifCond .eq 54, 3) := by decide +kernel
theorem dX7_readLine_216 : decode cX7_readLine 216 = .ok (.aload_n 1, 1) := by decide +kernel
theorem dX7_readLine_217 : decode cX7_readLine 217 = .ok (.getfield 115, 3) := by decide +kernel
theorem dX7_readLine_220 : decode cX7_readLine 220 = .ok (.iconst (-1), 1) := by decide +kernel
theorem dX7_readLine_221 : decode cX7_readLine 221 = .ok (.if_icmp .ne 8, 3) := by decide +kernel
theorem dX7_readLine_224 : decode cX7_readLine 224 = .ok (.bipush 6, 2) := by decide +kernel
theorem dX7_readLine_226 : decode cX7_readLine 226 = .ok (.goto 4, 3) := by decide +kernel
theorem dX7_readLine_229 : decode cX7_readLine 229 = .ok (.iconst 0, 1) := by decide +kernel
theorem dX7_readLine_230 : decode cX7_readLine 230 = .ok (.istore_n 2, 1) := by decide +kernel
theorem dX7_readLine_231 : decode cX7_readLine 231 = .ok (.aload_n 0, 1) := by decide +kernel
theorem dX7_readLine_232 : decode cX7_readLine 232 = .ok (.aload_n 1, 1) := by decide +kernel
theorem dX7_readLine_233 : decode cX7_readLine 233 = .ok (.aload_n 1, 1) := by decide +kernel
theorem dX7_readLine_234 : decode cX7_readLine 234 = .ok (.getfield 123, 3) := by decide +kernel
theorem dX7_readLine_237 : decode cX7_readLine 237 = .ok (.bipush 6, 2) := by decide +kernel
theorem dX7_readLine_239 : decode cX7_readLine 239 = .ok (.if_icmp .ge 7, 3) := by decide +kernel
theorem dX7_readLine_24 : decode cX7_readLine 24 = .ok (.aload_n 0, 1) := by decide +kernel
theorem dX7_readLine_242 : decode cX7_readLine 242 = .ok (.iload_n 2, 1) := by decide +kernel
theorem dX7_readLine_243 : decode cX7_readLine 243 = .ok (.goto 4, 3) := by decide +kernel
theorem dX7_readLine_246 : decode cX7_readLine 246 = .ok (.iconst 5, 1) := by decide +kernel
theorem dX7_readLine_247 : decode cX7_readLine 247 = .ok (.invokevirtual 90, 3) := by decide +kernel
theorem dX7_readLine_25 : decode cX7_readLine 25 = .ok (.iconst 3, 1) := by decide +kernel
theorem dX7_readLine_250 : decode cX7_readLine 250 = .ok (.ifCond .eq 15, 3) := by decide +kernel
theorem dX7_readLine_253 : decode cX7_readLine 253 = .ok (.aload_n 0, 1) := by decide +kernel
theorem dX7_readLine_254 : decode cX7_readLine 254 = .ok (.aload_n 1, 1) := by decide +kernel
theorem dX7_readLine_255 : decode cX7_readLine 255 = .ok (.invokevirtual 126, 3) := by decide +kernel
theorem dX7_readLine_258 : decode cX7_readLine 258 = .ok (.ifCond .eq 7, 3) := by decide +kernel
theorem dX7_readLine_26 : decode cX7_readLine 26 = .ok (.invokevirtual 72, 3) := by decide +kernel
theorem dX7_readLine_261 : decode cX7_readLine 261 = .ok (.iconst 1, 1) := by decide +kernel
theorem dX7_readLine_262 : decode cX7_readLine 262 = .ok (.goto 4, 3) := by decide +kernel
theorem dX7_readLine_265 : decode cX7_readLine 265 = .ok (.iconst 0, 1) := by decide +kernel
theorem dX7_readLine_266 : decode cX7_readLine 266 = .ok (.ireturn, 1) := by decide +kernel
theorem dX7_readLine_267 : decode cX7_readLine 267 = .ok (.aload_n 0, 1) := by decide +kernel
theorem dX7_readLine_268 : decode cX7_readLine 268 = .ok (.iconst 1, 1) := by decide +kernel
theorem dX7_readLine_269 : decode cX7_readLine 269 = .ok (.invokevirtual 72, 3) := by decide +kernel
theorem dX7_readLine_272 : decode cX7_readLine 272 = .ok (.ireturn, 1) := by decide +kernel
theorem dX7_readLine_29 : decode cX7_readLine 29 = .ok (.ireturn, 1) := by decide +kernel
theorem dX7_readLine_3 : decode cX7_readLine 3 = .ok (.invokevirtual 78, 3) := by decide +kernel
theorem dX7_readLine_30 : decode cX7_readLine 30 = .ok (.aload_n 0, 1) := by decide +kernel
theorem dX7_readLine_31 : decode cX7_readLine 31 = .ok (.ldc 88, 2) := by decide +kernel
theorem dX7_readLine_33 : decode cX7_readLine 33 = .ok (.invokevirtual 78, 3) := by decide +kernel
theorem dX7_readLine_36 : decode cX7_readLine 36 = .ok (.ifCond .eq 38, 3) := by decide +kernel
theorem dX7_readLine_39 : decode cX7_readLine 39 = .ok (.aload_n 0, 1) := by decide +kernel
theorem dX7_readLine_40 : decode cX7_readLine 40 = .ok (.aload_n 1, 1) := by decide +kernel
theorem dX7_readLine_41 : decode cX7_readLine 41 = .ok (.aload_n 1, 1) := by decide +kernel
theorem dX7_readLine_42 : decode cX7_readLine 42 = .ok (.getfield 69, 3) := by decide +kernel
theorem dX7_readLine_45 : decode cX7_readLine 45 = .ok (.iconst 4, 1) := by decide +kernel
theorem dX7_readLine_46 : decode cX7_readLine 46 = .ok (.if_icmp .ge 7, 3) := by decide +kernel
theorem dX7_readLine_49 : decode cX7_readLine 49 = .ok (.iconst 0, 1) := by decide +kernel
theorem dX7_readLine_50 : decode cX7_readLine 50 = .ok (.goto 4, 3) := by decide +kernel
theorem dX7_readLine_53 : decode cX7_readLine 53 = .ok (.iconst 5, 1) := by decide +kernel
theorem dX7_readLine_54 : decode cX7_readLine 54 = .ok (.invokevirtual 90, 3) := by decide +kernel
theorem dX7_readLine_57 : decode cX7_readLine 57 = .ok (.ifCond .eq 15, 3) := by decide +kernel
theorem dX7_readLine_6 : decode cX7_readLine 6 = .ok (.ifCond .eq 24, 3) := by decide +kernel
theorem dX7_readLine_60 : decode cX7_readLine 60 = .ok (.aload_n 0, 1) := by decide +kernel
theorem dX7_readLine_61 : decode cX7_readLine 61 = .ok (.aload_n 1, 1) := by decide +kernel
theorem dX7_readLine_62 : decode cX7_readLine 62 = .ok (.invokevirtual 94, 3) := by decide +kernel
theorem dX7_readLine_65 : decode cX7_readLine 65 = .ok (.ifCond .eq 7, 3) := by decide +kernel
theorem dX7_readLine_68 : decode cX7_readLine 68 = .ok (.iconst 1, 1) := by decide +kernel
theorem dX7_readLine_69 : decode cX7_readLine 69 = .ok (.goto 4, 3) := by decide +kernel
theorem dX7_readLine_72 : decode cX7_readLine 72 = .ok (.iconst 0, 1) := by decide +kernel
theorem dX7_readLine_73 : decode cX7_readLine 73 = .ok (.ireturn, 1) := by decide +kernel
theorem dX7_readLine_74 : decode cX7_readLine 74 = .ok (.aload_n 0, 1) := by decide +kernel
theorem dX7_readLine_75 : decode cX7_readLine 75 = .ok (.ldc 97, 2) := by decide +kernel
theorem dX7_readLine_77 : decode cX7_readLine 77 = .ok (.invokevirtual 78, 3) := by decide +kernel
theorem dX7_readLine_80 : decode cX7_readLine 80 = .ok (.ifCond .eq 38, 3) := by decide +kernel
theorem dX7_readLine_83 : decode cX7_readLine 83 = .ok (.aload_n 0, 1) := by decide +kernel
theorem dX7_readLine_84 : decode cX7_readLine 84 = .ok (.aload_n 1, 1) := by decide +kernel
theorem dX7_readLine_85 : decode cX7_readLine 85 = .ok (.aload_n 1, 1) := by decide +kernel
theorem dX7_readLine_86 : decode cX7_readLine 86 = .ok (.getfield 99, 3) := by decide +kernel
theorem dX7_readLine_89 : decode cX7_readLine 89 = .ok (.iconst 5, 1) := by decide +kernel
theorem dX7_readLine_9 : decode cX7_readLine 9 = .ok (.aload_n 1, 1) := by decide +kernel
theorem dX7_readLine_90 : decode cX7_readLine 90 = .ok (.if_icmp .ge 7, 3) := by decide +kernel
theorem dX7_readLine_93 : decode cX7_readLine 93 = .ok (.iconst 0, 1) := by decide +kernel
theorem dX7_readLine_94 : decode cX7_readLine 94 = .ok (.goto 4, 3) := by decide +kernel
theorem dX7_readLine_97 : decode cX7_readLine 97 = .ok (.iconst 5, 1) := by decide +kernel
theorem dX7_readLine_98 : decode cX7_readLine 98 = .ok (.invokevirtual 90, 3) := by decide +kernel
def vfX7_readLine : List Cond := List.cons (.code yX7_readLine cX7_readLine 3 (some .boolean)) (apW [.methodLink RX7 78 yX7_isWord, .instanceMethod yX7_isWord, .selects RX7 yX7_isWord yX7_isWord, .initialized RX7, .methodLink RX7 72 yX7_fail, .instanceMethod yX7_fail, .selects RX7 yX7_fail yX7_fail, .fieldLink RX7 115 "HookPier$Plan" "darkHunger" "I", .fieldLink RX7 123 "HookPier$Plan" "bites" "I", .methodLink RX7 90 yX7_opens, .instanceMethod yX7_opens, .selects RX7 yX7_opens yX7_opens, .methodLink RX7 126 yX7_readBite, .instanceMethod yX7_readBite, .selects RX7 yX7_readBite yX7_readBite, .methodLink RX7 118 yX7_readDark, .instanceMethod yX7_readDark, .selects RX7 yX7_readDark yX7_readDark, .fieldLink RX7 107 "HookPier$Plan" "answers" "I", .methodLink RX7 110 yX7_readAnswer, .instanceMethod yX7_readAnswer, .selects RX7 yX7_readAnswer yX7_readAnswer, .fieldLink RX7 99 "HookPier$Plan" "askers" "I", .methodLink RX7 102 yX7_readAsker, .instanceMethod yX7_readAsker, .selects RX7 yX7_readAsker yX7_readAsker, .fieldLink RX7 69 "HookPier$Plan" "baits" "I", .methodLink RX7 94 yX7_readBait, .instanceMethod yX7_readBait, .selects RX7 yX7_readBait yX7_readBait, .fieldLink RX7 82 "HookPier$Plan" "spots" "I", .methodLink RX7 85 yX7_readPier, .instanceMethod yX7_readPier, .selects RX7 yX7_readPier yX7_readPier] (apW wsX60 (apW vfX7_isWord (apW vfX7_fail (apW vfX7_opens (apW vfX7_readBite (apW vfX7_readDark (apW vfX7_readAnswer (apW vfX7_readAsker (apW vfX7_readBait (vfX7_readPier)))))))))))
theorem ifX7_readLine_X6 : ∀ w ∈ wsX60, w ∈ vfX7_readLine := fun _ h => (List.mem_cons_of_mem _ (List.mem_append_right _ (List.mem_append_left _ h)))
theorem qfX7_readLine : Good vfX7_readLine := gd_cons (by decide +kernel) (gd_app (gd_dec (by decide +kernel) : Good [.methodLink RX7 78 yX7_isWord, .instanceMethod yX7_isWord, .selects RX7 yX7_isWord yX7_isWord, .initialized RX7, .methodLink RX7 72 yX7_fail, .instanceMethod yX7_fail, .selects RX7 yX7_fail yX7_fail, .fieldLink RX7 115 "HookPier$Plan" "darkHunger" "I", .fieldLink RX7 123 "HookPier$Plan" "bites" "I", .methodLink RX7 90 yX7_opens, .instanceMethod yX7_opens, .selects RX7 yX7_opens yX7_opens, .methodLink RX7 126 yX7_readBite, .instanceMethod yX7_readBite, .selects RX7 yX7_readBite yX7_readBite, .methodLink RX7 118 yX7_readDark, .instanceMethod yX7_readDark, .selects RX7 yX7_readDark yX7_readDark, .fieldLink RX7 107 "HookPier$Plan" "answers" "I", .methodLink RX7 110 yX7_readAnswer, .instanceMethod yX7_readAnswer, .selects RX7 yX7_readAnswer yX7_readAnswer, .fieldLink RX7 99 "HookPier$Plan" "askers" "I", .methodLink RX7 102 yX7_readAsker, .instanceMethod yX7_readAsker, .selects RX7 yX7_readAsker yX7_readAsker, .fieldLink RX7 69 "HookPier$Plan" "baits" "I", .methodLink RX7 94 yX7_readBait, .instanceMethod yX7_readBait, .selects RX7 yX7_readBait yX7_readBait, .fieldLink RX7 82 "HookPier$Plan" "spots" "I", .methodLink RX7 85 yX7_readPier, .instanceMethod yX7_readPier, .selects RX7 yX7_readPier yX7_readPier]) (gd_app qsX6 (gd_app qfX7_isWord (gd_app qfX7_fail (gd_app qfX7_opens (gd_app qfX7_readBite (gd_app qfX7_readDark (gd_app qfX7_readAnswer (gd_app qfX7_readAsker (gd_app qfX7_readBait qfX7_readPier))))))))))
theorem gfX7_readLine_0 : GoodIn vfX7_readLine (wsV RX7 78 RX7 yX7_isWord vfX7_isWord) := goodIn_app (goodIn_r [.methodLink RX7 78 yX7_isWord, .instanceMethod yX7_isWord, .selects RX7 yX7_isWord yX7_isWord, .initialized RX7] [1, 2, 3, 4] rfl (by decide +kernel)) (goodIn_m (fun _ h => (List.mem_cons_of_mem _ (List.mem_append_right _ (List.mem_append_right _ (List.mem_append_left _ h))))) qfX7_isWord)
theorem gfX7_readLine_1 : GoodIn vfX7_readLine (wsV RX7 72 RX7 yX7_fail vfX7_fail) := goodIn_app (goodIn_r [.methodLink RX7 72 yX7_fail, .instanceMethod yX7_fail, .selects RX7 yX7_fail yX7_fail, .initialized RX7] [5, 6, 7, 4] rfl (by decide +kernel)) (goodIn_m (fun _ h => (List.mem_cons_of_mem _ (List.mem_append_right _ (List.mem_append_right _ (List.mem_append_right _ (List.mem_append_left _ h)))))) qfX7_fail)
theorem gfX7_readLine_2 : GoodIn vfX7_readLine (wsV RX7 90 RX7 yX7_opens vfX7_opens) := goodIn_app (goodIn_r [.methodLink RX7 90 yX7_opens, .instanceMethod yX7_opens, .selects RX7 yX7_opens yX7_opens, .initialized RX7] [10, 11, 12, 4] rfl (by decide +kernel)) (goodIn_m (fun _ h => (List.mem_cons_of_mem _ (List.mem_append_right _ (List.mem_append_right _ (List.mem_append_right _ (List.mem_append_right _ (List.mem_append_left _ h))))))) qfX7_opens)
theorem gfX7_readLine_3 : GoodIn vfX7_readLine (wsV RX7 126 RX7 yX7_readBite vfX7_readBite) := goodIn_app (goodIn_r [.methodLink RX7 126 yX7_readBite, .instanceMethod yX7_readBite, .selects RX7 yX7_readBite yX7_readBite, .initialized RX7] [13, 14, 15, 4] rfl (by decide +kernel)) (goodIn_m (fun _ h => (List.mem_cons_of_mem _ (List.mem_append_right _ (List.mem_append_right _ (List.mem_append_right _ (List.mem_append_right _ (List.mem_append_right _ (List.mem_append_left _ h)))))))) qfX7_readBite)
theorem gfX7_readLine_4 : GoodIn vfX7_readLine (wsV RX7 118 RX7 yX7_readDark vfX7_readDark) := goodIn_app (goodIn_r [.methodLink RX7 118 yX7_readDark, .instanceMethod yX7_readDark, .selects RX7 yX7_readDark yX7_readDark, .initialized RX7] [16, 17, 18, 4] rfl (by decide +kernel)) (goodIn_m (fun _ h => (List.mem_cons_of_mem _ (List.mem_append_right _ (List.mem_append_right _ (List.mem_append_right _ (List.mem_append_right _ (List.mem_append_right _ (List.mem_append_right _ (List.mem_append_left _ h))))))))) qfX7_readDark)
theorem gfX7_readLine_5 : GoodIn vfX7_readLine (wsV RX7 110 RX7 yX7_readAnswer vfX7_readAnswer) := goodIn_app (goodIn_r [.methodLink RX7 110 yX7_readAnswer, .instanceMethod yX7_readAnswer, .selects RX7 yX7_readAnswer yX7_readAnswer, .initialized RX7] [20, 21, 22, 4] rfl (by decide +kernel)) (goodIn_m (fun _ h => (List.mem_cons_of_mem _ (List.mem_append_right _ (List.mem_append_right _ (List.mem_append_right _ (List.mem_append_right _ (List.mem_append_right _ (List.mem_append_right _ (List.mem_append_right _ (List.mem_append_left _ h)))))))))) qfX7_readAnswer)
theorem gfX7_readLine_6 : GoodIn vfX7_readLine (wsV RX7 102 RX7 yX7_readAsker vfX7_readAsker) := goodIn_app (goodIn_r [.methodLink RX7 102 yX7_readAsker, .instanceMethod yX7_readAsker, .selects RX7 yX7_readAsker yX7_readAsker, .initialized RX7] [24, 25, 26, 4] rfl (by decide +kernel)) (goodIn_m (fun _ h => (List.mem_cons_of_mem _ (List.mem_append_right _ (List.mem_append_right _ (List.mem_append_right _ (List.mem_append_right _ (List.mem_append_right _ (List.mem_append_right _ (List.mem_append_right _ (List.mem_append_right _ (List.mem_append_left _ h))))))))))) qfX7_readAsker)
theorem gfX7_readLine_7 : GoodIn vfX7_readLine (wsV RX7 94 RX7 yX7_readBait vfX7_readBait) := goodIn_app (goodIn_r [.methodLink RX7 94 yX7_readBait, .instanceMethod yX7_readBait, .selects RX7 yX7_readBait yX7_readBait, .initialized RX7] [28, 29, 30, 4] rfl (by decide +kernel)) (goodIn_m (fun _ h => (List.mem_cons_of_mem _ (List.mem_append_right _ (List.mem_append_right _ (List.mem_append_right _ (List.mem_append_right _ (List.mem_append_right _ (List.mem_append_right _ (List.mem_append_right _ (List.mem_append_right _ (List.mem_append_right _ (List.mem_append_left _ h)))))))))))) qfX7_readBait)
theorem gfX7_readLine_8 : GoodIn vfX7_readLine (wsV RX7 85 RX7 yX7_readPier vfX7_readPier) := goodIn_app (goodIn_r [.methodLink RX7 85 yX7_readPier, .instanceMethod yX7_readPier, .selects RX7 yX7_readPier yX7_readPier, .initialized RX7] [32, 33, 34, 4] rfl (by decide +kernel)) (goodIn_m (fun _ h => (List.mem_cons_of_mem _ (List.mem_append_right _ (List.mem_append_right _ (List.mem_append_right _ (List.mem_append_right _ (List.mem_append_right _ (List.mem_append_right _ (List.mem_append_right _ (List.mem_append_right _ (List.mem_append_right _ (List.mem_append_right _ h)))))))))))) qfX7_readPier)
set_option maxHeartbeats 2000000 in
set_option maxRecDepth 100000 in
theorem kfX7_readLine (l : Launch) (dC : Nat → ClassId) (dI : Nat → Nat → Nat) (a0 : Nat) (a1 : Nat) (ur : Nat → Nat) (kr : Nat → ClassId) (up : Nat → Nat) (kp : Nat → ClassId) (r_r : TX7_r) (p_p : TX6_p) (sz : Nat) (B : Nat) (out : (Int32 × TX7_r × TX6_p)) (h : f_X7_readLine r_r p_p = some out) : Met l yX7_readLine vfX7_readLine ({ frames := 8, cells := 0, slots := 0, locals := 172 }) (PF (dC, dI) B [.ref a0, .ref a1] sz (bX7 a0 ur kr r_r (bX6 a1 up kp p_p [])) (tX7 kr (tX6 kp ([]))) []) (va_Qi (S := Unit) (fun (r : Int32) _ => r = out.1 ∧ (0 ≤ r.toInt ∧ r.toInt ≤ 1)) (fun _ t => BC (dC, dI) (va_A (bX7 a0 ur kr r_r (bX6 a1 up kp p_p [])) sz) (bX7 a0 ur kr out.2.1 (bX6 a1 up kp out.2.2 [])) [] t) (va_A (bX7 a0 ur kr r_r (bX6 a1 up kp p_p [])) sz)) 0 0 (va_A (bX7 a0 ur kr r_r (bX6 a1 up kp p_p [])) sz) := by
  refine Met.ofW (cc := cX7_readLine) (maxL := 3) (ret := (some .boolean)) (by decide) rfl ?_
  intro p e s m args below meth c s₁ B0 hml hv
  obtain ⟨rfl, hsz, hP, hK, hD0, hN, hBs, hE, hX⟩ := hv
  have hBA := PF_reg hD0 hBs
  have hx := B0.exec
  have hb := B0.bytes
  have hr := B0.returns
  have hts := atoms_spec (ws := vfX7_readLine) B0.pre
  have hown : s.vm.findClass RX7 = some m.cls := findClass_of_methodNamed B0.named
  have hlocks := B0.notSynchronized
  subst hsz
  have hD := hD0.self (sz := s.heap.size)
  generalize hAe : va_A (bX7 a0 ur kr r_r (bX6 a1 up kp p_p [])) s.heap.size = A at hD hBA ⊢
  have hA : ∀ q : Nat, s.heap.size ≤ q → A q := fun q h => by rw [← hAe]; exact Or.inr h
  have hS : va_S A s.heap s.heap [] := va_S.rf
  have hP : va_P (dC, dI) vwCl (bX7 a0 ur kr r_r (bX6 a1 up kp p_p [])) s.heap := hP
  have hl := lv_entry ([.ref a0, .ref a1]) (n := 3) (Nat.le_of_ble_eq_true rfl)
  rw [lg_entry_eq]
  generalize (lg_sl ([.ref a0, .ref a1]) ++ List.replicate (3 - (lg_sl ([.ref a0, .ref a1])).length) Slot.unset).toArray = ls at hl ⊢
  have hl : lv_has ls 3 [(0, .ref a0), (1, .ref a1)] := hl
  have hB : RB B s A := ⟨hBA, hBs⟩
  refine W_q (fun QQ hQQ => ?_)
  rw [f_X7_readLine] at h
  refine lv_aload_n hx hb dX7_readLine_0 rfl (lv_at hl 0 rfl) ?_
  obtain ⟨s1, hs1, xs1⟩ := hE.1 (RX7, 76, "pier", tx_pier) (List.mem_of_getElem? (i := 0) rfl)
  refine va_ldcS hx hb hown hs1 dX7_readLine_1 ?_
  obtain ⟨o3, eo3, h⟩ := bd_of h
  refine cl_i (wc := (bX7 a0 ur kr r_r [])) (wr := (bX6 a1 up kp p_p [])) (va_runV (As := [.ref s1]) (rest := []) ⟨hx, hb, hml, hown, hts⟩ (kfX7_isWord l dC dI a0 s1 tx_pier ur kr r_r s.heap.size B o3 eo3) (cwV 1 hts gfX7_readLine_0 rfl rfl rfl (by decide +kernel) ⟨(Nat.le_of_ble_eq_true rfl), (Nat.le_of_ble_eq_true rfl)⟩) (PVF (hP.sub (ws' := (bX7 a0 ur kr r_r [])) [0, 1, 2, 3] rfl) (hK.sub (tys' := (tX7 kr ([]))) [0, 1, 2] rfl) (hD.sub (ws' := (bX7 a0 ur kr r_r [])) [0, 1, 2, 3] (by decide) rfl) hN hS hB hE (S1c xs1 S1n) 0 rfl rfl) rfl rfl hl.1 rfl (lv_room (Nat.le_of_ble_eq_true rfl)) dX7_readLine_3 ⟨(Nat.le_of_ble_eq_true rfl), (Nat.le_of_ble_eq_true rfl)⟩) hP hD hK hS hA [0, 1, 2, 3] [4, 5, 6, 7, 8, 9, 10, 11, 12, 13] rfl rfl (by decide) (by decide) (fun r3 _ H locs hw hP hD _ hS => ?_)
  obtain ⟨hw, br3⟩ := hw
  obtain rfl := hw.symm
  have hP : va_P (dC, dI) vwCl (bX6 a1 up kp p_p (bX7 a0 ur kr r_r [])) H := hP
  have hD : va_D A (bX6 a1 up kp p_p (bX7 a0 ur kr r_r [])) := hD
  refine lv_if_eq (tgt := 30) hx hb dX7_readLine_6 (by decide) (fun c6 => ?_) (fun c6 => ?_)
  · have h := (if_pos c6).symm.trans h
    refine lv_aload_n hx hb dX7_readLine_30 rfl (lv_at hl 0 rfl) ?_
    obtain ⟨s31, hs31, xs31⟩ := hE.1 (RX7, 88, "bait", tx_bait) (List.mem_of_getElem? (i := 5) rfl)
    refine va_ldcS hx hb hown hs31 dX7_readLine_31 ?_
    obtain ⟨o33, eo33, h⟩ := bd_of h
    refine cl_i (wc := (bX7 a0 ur kr r_r [])) (wr := (bX6 a1 up kp p_p [])) (va_runV (As := [.ref s31]) (rest := []) ⟨hx, hb, hml, hown, hts⟩ (kfX7_isWord l dC dI a0 s31 tx_bait ur kr r_r H.size B o33 eo33) (cwV 1 hts gfX7_readLine_0 rfl rfl rfl (by decide +kernel) ⟨(Nat.le_of_ble_eq_true rfl), (Nat.le_of_ble_eq_true rfl)⟩) (PVF (hP.sub (ws' := (bX7 a0 ur kr r_r [])) [10, 11, 12, 13] rfl) (hK.sub (tys' := (tX7 kr ([]))) [0, 1, 2] rfl) (hD.sub (ws' := (bX7 a0 ur kr r_r [])) [10, 11, 12, 13] (by decide) rfl) hN hS hB hE (S1c xs31 S1n) 0 rfl rfl) rfl rfl hl.1 rfl (lv_room (Nat.le_of_ble_eq_true rfl)) dX7_readLine_33 ⟨(Nat.le_of_ble_eq_true rfl), (Nat.le_of_ble_eq_true rfl)⟩) hP hD hK hS hA [10, 11, 12, 13] [0, 1, 2, 3, 4, 5, 6, 7, 8, 9] rfl rfl (by decide) (by decide) (fun r33 _ H locs hw hP hD _ hS => ?_)
    obtain ⟨hw, br33⟩ := hw
    obtain rfl := hw.symm
    have hP : va_P (dC, dI) vwCl (bX6 a1 up kp p_p (bX7 a0 ur kr r_r [])) H := hP
    have hD : va_D A (bX6 a1 up kp p_p (bX7 a0 ur kr r_r [])) := hD
    refine lv_if_eq (tgt := 74) hx hb dX7_readLine_36 (by decide) (fun c36 => ?_) (fun c36 => ?_)
    · have h := (if_pos c36).symm.trans h
      refine lv_aload_n hx hb dX7_readLine_74 rfl (lv_at hl 0 rfl) ?_
      obtain ⟨s75, hs75, xs75⟩ := hE.1 (RX7, 97, "asker", tx_asker) (List.mem_of_getElem? (i := 6) rfl)
      refine va_ldcS hx hb hown hs75 dX7_readLine_75 ?_
      obtain ⟨o77, eo77, h⟩ := bd_of h
      refine cl_i (wc := (bX7 a0 ur kr r_r [])) (wr := (bX6 a1 up kp p_p [])) (va_runV (As := [.ref s75]) (rest := []) ⟨hx, hb, hml, hown, hts⟩ (kfX7_isWord l dC dI a0 s75 tx_asker ur kr r_r H.size B o77 eo77) (cwV 1 hts gfX7_readLine_0 rfl rfl rfl (by decide +kernel) ⟨(Nat.le_of_ble_eq_true rfl), (Nat.le_of_ble_eq_true rfl)⟩) (PVF (hP.sub (ws' := (bX7 a0 ur kr r_r [])) [10, 11, 12, 13] rfl) (hK.sub (tys' := (tX7 kr ([]))) [0, 1, 2] rfl) (hD.sub (ws' := (bX7 a0 ur kr r_r [])) [10, 11, 12, 13] (by decide) rfl) hN hS hB hE (S1c xs75 S1n) 0 rfl rfl) rfl rfl hl.1 rfl (lv_room (Nat.le_of_ble_eq_true rfl)) dX7_readLine_77 ⟨(Nat.le_of_ble_eq_true rfl), (Nat.le_of_ble_eq_true rfl)⟩) hP hD hK hS hA [10, 11, 12, 13] [0, 1, 2, 3, 4, 5, 6, 7, 8, 9] rfl rfl (by decide) (by decide) (fun r77 _ H locs hw hP hD _ hS => ?_)
      obtain ⟨hw, br77⟩ := hw
      obtain rfl := hw.symm
      have hP : va_P (dC, dI) vwCl (bX6 a1 up kp p_p (bX7 a0 ur kr r_r [])) H := hP
      have hD : va_D A (bX6 a1 up kp p_p (bX7 a0 ur kr r_r [])) := hD
      refine lv_if_eq (tgt := 118) hx hb dX7_readLine_80 (by decide) (fun c80 => ?_) (fun c80 => ?_)
      · have h := (if_pos c80).symm.trans h
        refine lv_aload_n hx hb dX7_readLine_118 rfl (lv_at hl 0 rfl) ?_
        obtain ⟨s119, hs119, xs119⟩ := hE.1 (RX7, 105, "answer", tx_answer) (List.mem_of_getElem? (i := 7) rfl)
        refine va_ldcS hx hb hown hs119 dX7_readLine_119 ?_
        obtain ⟨o121, eo121, h⟩ := bd_of h
        refine cl_i (wc := (bX7 a0 ur kr r_r [])) (wr := (bX6 a1 up kp p_p [])) (va_runV (As := [.ref s119]) (rest := []) ⟨hx, hb, hml, hown, hts⟩ (kfX7_isWord l dC dI a0 s119 tx_answer ur kr r_r H.size B o121 eo121) (cwV 1 hts gfX7_readLine_0 rfl rfl rfl (by decide +kernel) ⟨(Nat.le_of_ble_eq_true rfl), (Nat.le_of_ble_eq_true rfl)⟩) (PVF (hP.sub (ws' := (bX7 a0 ur kr r_r [])) [10, 11, 12, 13] rfl) (hK.sub (tys' := (tX7 kr ([]))) [0, 1, 2] rfl) (hD.sub (ws' := (bX7 a0 ur kr r_r [])) [10, 11, 12, 13] (by decide) rfl) hN hS hB hE (S1c xs119 S1n) 0 rfl rfl) rfl rfl hl.1 rfl (lv_room (Nat.le_of_ble_eq_true rfl)) dX7_readLine_121 ⟨(Nat.le_of_ble_eq_true rfl), (Nat.le_of_ble_eq_true rfl)⟩) hP hD hK hS hA [10, 11, 12, 13] [0, 1, 2, 3, 4, 5, 6, 7, 8, 9] rfl rfl (by decide) (by decide) (fun r121 _ H locs hw hP hD _ hS => ?_)
        obtain ⟨hw, br121⟩ := hw
        obtain rfl := hw.symm
        have hP : va_P (dC, dI) vwCl (bX6 a1 up kp p_p (bX7 a0 ur kr r_r [])) H := hP
        have hD : va_D A (bX6 a1 up kp p_p (bX7 a0 ur kr r_r [])) := hD
        refine lv_if_eq (tgt := 163) hx hb dX7_readLine_124 (by decide) (fun c124 => ?_) (fun c124 => ?_)
        · have h := (if_pos c124).symm.trans h
          refine lv_aload_n hx hb dX7_readLine_163 rfl (lv_at hl 0 rfl) ?_
          obtain ⟨s164, hs164, xs164⟩ := hE.1 (RX7, 113, "dark", tx_dark) (List.mem_of_getElem? (i := 8) rfl)
          refine va_ldcS hx hb hown hs164 dX7_readLine_164 ?_
          obtain ⟨o166, eo166, h⟩ := bd_of h
          refine cl_i (wc := (bX7 a0 ur kr r_r [])) (wr := (bX6 a1 up kp p_p [])) (va_runV (As := [.ref s164]) (rest := []) ⟨hx, hb, hml, hown, hts⟩ (kfX7_isWord l dC dI a0 s164 tx_dark ur kr r_r H.size B o166 eo166) (cwV 1 hts gfX7_readLine_0 rfl rfl rfl (by decide +kernel) ⟨(Nat.le_of_ble_eq_true rfl), (Nat.le_of_ble_eq_true rfl)⟩) (PVF (hP.sub (ws' := (bX7 a0 ur kr r_r [])) [10, 11, 12, 13] rfl) (hK.sub (tys' := (tX7 kr ([]))) [0, 1, 2] rfl) (hD.sub (ws' := (bX7 a0 ur kr r_r [])) [10, 11, 12, 13] (by decide) rfl) hN hS hB hE (S1c xs164 S1n) 0 rfl rfl) rfl rfl hl.1 rfl (lv_room (Nat.le_of_ble_eq_true rfl)) dX7_readLine_166 ⟨(Nat.le_of_ble_eq_true rfl), (Nat.le_of_ble_eq_true rfl)⟩) hP hD hK hS hA [10, 11, 12, 13] [0, 1, 2, 3, 4, 5, 6, 7, 8, 9] rfl rfl (by decide) (by decide) (fun r166 _ H locs hw hP hD _ hS => ?_)
          obtain ⟨hw, br166⟩ := hw
          obtain rfl := hw.symm
          have hP : va_P (dC, dI) vwCl (bX6 a1 up kp p_p (bX7 a0 ur kr r_r [])) H := hP
          have hD : va_D A (bX6 a1 up kp p_p (bX7 a0 ur kr r_r [])) := hD
          refine lv_if_eq (tgt := 207) hx hb dX7_readLine_169 (by decide) (fun c169 => ?_) (fun c169 => ?_)
          · have h := (if_pos c169).symm.trans h
            refine lv_aload_n hx hb dX7_readLine_207 rfl (lv_at hl 0 rfl) ?_
            obtain ⟨s208, hs208, xs208⟩ := hE.1 (RX7, 121, "bite", tx_bite) (List.mem_of_getElem? (i := 9) rfl)
            refine va_ldcS hx hb hown hs208 dX7_readLine_208 ?_
            obtain ⟨o210, eo210, h⟩ := bd_of h
            refine cl_i (wc := (bX7 a0 ur kr r_r [])) (wr := (bX6 a1 up kp p_p [])) (va_runV (As := [.ref s208]) (rest := []) ⟨hx, hb, hml, hown, hts⟩ (kfX7_isWord l dC dI a0 s208 tx_bite ur kr r_r H.size B o210 eo210) (cwV 1 hts gfX7_readLine_0 rfl rfl rfl (by decide +kernel) ⟨(Nat.le_of_ble_eq_true rfl), (Nat.le_of_ble_eq_true rfl)⟩) (PVF (hP.sub (ws' := (bX7 a0 ur kr r_r [])) [10, 11, 12, 13] rfl) (hK.sub (tys' := (tX7 kr ([]))) [0, 1, 2] rfl) (hD.sub (ws' := (bX7 a0 ur kr r_r [])) [10, 11, 12, 13] (by decide) rfl) hN hS hB hE (S1c xs208 S1n) 0 rfl rfl) rfl rfl hl.1 rfl (lv_room (Nat.le_of_ble_eq_true rfl)) dX7_readLine_210 ⟨(Nat.le_of_ble_eq_true rfl), (Nat.le_of_ble_eq_true rfl)⟩) hP hD hK hS hA [10, 11, 12, 13] [0, 1, 2, 3, 4, 5, 6, 7, 8, 9] rfl rfl (by decide) (by decide) (fun r210 _ H locs hw hP hD _ hS => ?_)
            obtain ⟨hw, br210⟩ := hw
            obtain rfl := hw.symm
            have hP : va_P (dC, dI) vwCl (bX6 a1 up kp p_p (bX7 a0 ur kr r_r [])) H := hP
            have hD : va_D A (bX6 a1 up kp p_p (bX7 a0 ur kr r_r [])) := hD
            refine lv_if_eq (tgt := 267) hx hb dX7_readLine_213 (by decide) (fun c213 => ?_) (fun c213 => ?_)
            · have h := (if_pos c213).symm.trans h
              refine lv_aload_n hx hb dX7_readLine_267 rfl (lv_at hl 0 rfl) ?_
              refine lv_iconst (v := 1) hx hb dX7_readLine_268 (by decide) ?_
              obtain ⟨o269, eo269⟩ : ∃ o, o = f_X7_fail (1 : Int32) r_r := ⟨_, rfl⟩
              have h := nm_of h o269 eo269
              refine cl_i (wc := (bX7 a0 ur kr r_r [])) (wr := (bX6 a1 up kp p_p [])) (va_runV (As := [.int 1]) (rest := []) ⟨hx, hb, hml, hown, hts⟩ (kfX7_fail l dC dI a0 (1 : Int32) ur kr r_r H.size o269 eo269.symm) (cwV 1 hts gfX7_readLine_1 rfl rfl rfl (by decide +kernel) ⟨(Nat.le_of_ble_eq_true rfl), (Nat.le_of_ble_eq_true rfl)⟩) (PV (hP.sub (ws' := (bX7 a0 ur kr r_r [])) [10, 11, 12, 13] rfl) (hK.sub (tys' := (tX7 kr ([]))) [0, 1, 2] rfl) (hD.sub (ws' := (bX7 a0 ur kr r_r [])) [10, 11, 12, 13] (by decide) rfl) hN 0 rfl rfl) rfl rfl hl.1 rfl (lv_room (Nat.le_of_ble_eq_true rfl)) dX7_readLine_269 ⟨(Nat.le_of_ble_eq_true rfl), (Nat.le_of_ble_eq_true rfl)⟩) hP hD hK hS hA [10, 11, 12, 13] [0, 1, 2, 3, 4, 5, 6, 7, 8, 9] rfl rfl (by decide) (by decide) (fun r269 _ H locs hw hP hD _ hS => ?_)
              obtain ⟨hw, br269⟩ := hw
              obtain rfl := hw
              have hP : va_P (dC, dI) vwCl (bX6 a1 up kp p_p (bX7 a0 ur kr o269 [])) H := hP
              have hD : va_D A (bX6 a1 up kp p_p (bX7 a0 ur kr o269 [])) := hD
              obtain rfl := Option.some.inj h
              have hP9 := hP.sub (ws' := (bX7 a0 ur kr o269 (bX6 a1 up kp p_p []))) [10, 11, 12, 13, 0, 1, 2, 3, 4, 5, 6, 7, 8, 9] rfl
              have hD9 := hD.sub (ws' := (bX7 a0 ur kr o269 (bX6 a1 up kp p_p []))) [10, 11, 12, 13, 0, 1, 2, 3, 4, 5, 6, 7, 8, 9] (by decide) rfl
              have hK9 := hK.sub (tys' := []) [] rfl
              rw [hQQ]
              exact W.zret (v := (0 : Int32)) hx hb hr rfl (fun t ht hW => ⟨⟨(0 : Int32), (), rfl, ⟨rfl, (by decide)⟩, by rw [ht]; exact hP9, va_K.moved hW.alike hK9, hD9⟩, hS.F ht⟩) hS.2.2 dX7_readLine_272
            · have h := (if_neg c213).symm.trans h
              refine lv_aload_n hx hb dX7_readLine_216 rfl (lv_at hl 1 rfl) ?_
              refine va_get (D := (dC, dI)) (ci := 4) (v := .int p_p.2.2.2.2.2.2.2.2.1) (C := RX6) (T := TX6) (N := 18) hx hb hts ifX7_readLine_X6 hown hK hP 0 rfl rfl 8 (by decide) (hts (.fieldLink RX7 115 "HookPier$Plan" "darkHunger" "I") (List.mem_of_getElem? (i := 8) rfl)) (fun _ h9 => h9) rfl dX7_readLine_217 ?_
              refine lv_iconst (v := (-1)) hx hb dX7_readLine_220 (by decide) ?_
              have J230 : ∀ (v230_t0 : Int32) (H : Heap) (locs : List Loc) (ls : Array Slot), f_X7_readLine_J230 r_r p_p v230_t0 = some out → va_P (dC, dI) vwCl (bX6 a1 up kp p_p (bX7 a0 ur kr r_r [])) H → va_D A (bX6 a1 up kp p_p (bX7 a0 ur kr r_r [])) → va_S A s.heap H locs → lv_has ls 3 [(0, .ref a0), (1, .ref a1)] → W p l e (headSpec vfX7_readLine { frames := 8, cells := 0, slots := 0, locals := 172 }).room s m ([.ref a0, .ref a1]).toArray below meth c H locs 0 0 QQ (F0 m 230 ls [.int v230_t0]) := by
                intro v230_t0 H locs ls h  hP hD hS hl
                rw [f_X7_readLine_J230] at h
                refine lv_istore_n (lv' := [(2, .int v230_t0), (0, .ref a0), (1, .ref a1)]) hx hb dX7_readLine_230 rfl hl (by decide) rfl (fun ls hl => ?_)
                refine lv_aload_n hx hb dX7_readLine_231 rfl (lv_at hl 1 rfl) ?_
                refine lv_aload_n hx hb dX7_readLine_232 rfl (lv_at hl 2 rfl) ?_
                refine lv_aload_n hx hb dX7_readLine_233 rfl (lv_at hl 2 rfl) ?_
                refine va_get (D := (dC, dI)) (ci := 4) (v := .int p_p.2.2.2.2.2.2.2.1) (C := RX6) (T := TX6) (N := 18) hx hb hts ifX7_readLine_X6 hown hK hP 0 rfl rfl 7 (by decide) (hts (.fieldLink RX7 123 "HookPier$Plan" "bites" "I") (List.mem_of_getElem? (i := 9) rfl)) (fun _ h9 => h9) rfl dX7_readLine_234 ?_
                refine lv_bipush (v := 6) hx hb dX7_readLine_237 (by decide) ?_
                have J247 : ∀ (v247_t2 : Int32) (H : Heap) (locs : List Loc) (ls : Array Slot), f_X7_readLine_J247 r_r p_p v247_t2 = some out → va_P (dC, dI) vwCl (bX6 a1 up kp p_p (bX7 a0 ur kr r_r [])) H → va_D A (bX6 a1 up kp p_p (bX7 a0 ur kr r_r [])) → va_S A s.heap H locs → lv_has ls 3 [(0, .ref a0), (1, .ref a1)] → W p l e (headSpec vfX7_readLine { frames := 8, cells := 0, slots := 0, locals := 172 }).room s m ([.ref a0, .ref a1]).toArray below meth c H locs 0 0 QQ (F0 m 247 ls [.int v247_t2, .ref a1, .ref a0]) := by
                  intro v247_t2 H locs ls h  hP hD hS hl
                  rw [f_X7_readLine_J247] at h
                  obtain ⟨o247, eo247, h⟩ := bd_of h
                  refine cl_i (wc := (bX7 a0 ur kr r_r (bX6 a1 up kp p_p []))) (wr := []) (va_runV (As := [.ref a1, .int v247_t2]) (rest := []) ⟨hx, hb, hml, hown, hts⟩ (kfX7_opens l dC dI a0 a1 v247_t2 ur kr up kp r_r p_p H.size o247 eo247) (cwV 2 hts gfX7_readLine_2 rfl rfl rfl (by decide +kernel) ⟨(Nat.le_of_ble_eq_true rfl), (Nat.le_of_ble_eq_true rfl)⟩) (PV (hP.sub (ws' := (bX7 a0 ur kr r_r (bX6 a1 up kp p_p []))) [10, 11, 12, 13, 0, 1, 2, 3, 4, 5, 6, 7, 8, 9] rfl) (hK.sub (tys' := (tX7 kr (tX6 kp ([])))) [0, 1, 2, 3, 4, 5, 6, 7, 8, 9, 10, 11] rfl) (hD.sub (ws' := (bX7 a0 ur kr r_r (bX6 a1 up kp p_p []))) [10, 11, 12, 13, 0, 1, 2, 3, 4, 5, 6, 7, 8, 9] (by decide) rfl) hN 0 rfl rfl) rfl rfl hl.1 rfl (lv_room (Nat.le_of_ble_eq_true rfl)) dX7_readLine_247 ⟨(Nat.le_of_ble_eq_true rfl), (Nat.le_of_ble_eq_true rfl)⟩) hP hD hK hS hA [10, 11, 12, 13, 0, 1, 2, 3, 4, 5, 6, 7, 8, 9] [] rfl rfl (by decide) (by decide) (fun r247 _ H locs hw hP hD _ hS => ?_)
                  obtain ⟨hw, br247⟩ := hw
                  obtain rfl := hw
                  have hP : va_P (dC, dI) vwCl (bX7 a0 ur kr o247.2 (bX6 a1 up kp p_p [])) H := hP
                  have hD : va_D A (bX7 a0 ur kr o247.2 (bX6 a1 up kp p_p [])) := hD
                  refine lv_if_eq (tgt := 265) hx hb dX7_readLine_250 (by decide) (fun c250 => ?_) (fun c250 => ?_)
                  · have h := (if_pos c250).symm.trans h
                    refine lv_iconst (v := 0) hx hb dX7_readLine_265 (by decide) ?_
                    obtain rfl := Option.some.inj h
                    have hP9 := hP.sub (ws' := (bX7 a0 ur kr o247.2 (bX6 a1 up kp p_p []))) [0, 1, 2, 3, 4, 5, 6, 7, 8, 9, 10, 11, 12, 13] rfl
                    have hD9 := hD.sub (ws' := (bX7 a0 ur kr o247.2 (bX6 a1 up kp p_p []))) [0, 1, 2, 3, 4, 5, 6, 7, 8, 9, 10, 11, 12, 13] (by decide) rfl
                    have hK9 := hK.sub (tys' := []) [] rfl
                    rw [hQQ]
                    exact W.zret (v := (0 : Int32)) hx hb hr rfl (fun t ht hW => ⟨⟨(0 : Int32), (), rfl, ⟨rfl, (by decide)⟩, by rw [ht]; exact hP9, va_K.moved hW.alike hK9, hD9⟩, hS.F ht⟩) hS.2.2 dX7_readLine_266
                  · have h := (if_neg c250).symm.trans h
                    refine lv_aload_n hx hb dX7_readLine_253 rfl (lv_at hl 0 rfl) ?_
                    refine lv_aload_n hx hb dX7_readLine_254 rfl (lv_at hl 1 rfl) ?_
                    obtain ⟨o255, eo255, h⟩ := bd_of h
                    refine cl_i (wc := (bX7 a0 ur kr o247.2 (bX6 a1 up kp p_p []))) (wr := []) (va_runV (As := [.ref a1]) (rest := []) ⟨hx, hb, hml, hown, hts⟩ (kfX7_readBite l dC dI a0 a1 ur kr up kp o247.2 p_p H.size B o255 eo255) (cwV 1 hts gfX7_readLine_3 rfl rfl rfl (by decide +kernel) ⟨(Nat.le_of_ble_eq_true rfl), (Nat.le_of_ble_eq_true rfl)⟩) (PVF (hP.sub (ws' := (bX7 a0 ur kr o247.2 (bX6 a1 up kp p_p []))) [0, 1, 2, 3, 4, 5, 6, 7, 8, 9, 10, 11, 12, 13] rfl) (hK.sub (tys' := (tX7 kr (tX6 kp ([])))) [0, 1, 2, 3, 4, 5, 6, 7, 8, 9, 10, 11] rfl) (hD.sub (ws' := (bX7 a0 ur kr o247.2 (bX6 a1 up kp p_p []))) [0, 1, 2, 3, 4, 5, 6, 7, 8, 9, 10, 11, 12, 13] (by decide) rfl) hN hS hB hE S1n 0 rfl rfl) rfl rfl hl.1 rfl (lv_room (Nat.le_of_ble_eq_true rfl)) dX7_readLine_255 ⟨(Nat.le_of_ble_eq_true rfl), (Nat.le_of_ble_eq_true rfl)⟩) hP hD hK hS hA [0, 1, 2, 3, 4, 5, 6, 7, 8, 9, 10, 11, 12, 13] [] rfl rfl (by decide) (by decide) (fun r255 _ H locs hw hP hD _ hS => ?_)
                    obtain ⟨hw, br255⟩ := hw
                    obtain rfl := hw
                    have hP : va_P (dC, dI) vwCl (bX7 a0 ur kr o255.2.1 (bX6 a1 up kp o255.2.2 [])) H := hP
                    have hD : va_D A (bX7 a0 ur kr o255.2.1 (bX6 a1 up kp o255.2.2 [])) := hD
                    refine lv_if_eq (tgt := 265) hx hb dX7_readLine_258 (by decide) (fun c258 => ?_) (fun c258 => ?_)
                    · have h := (if_pos c258).symm.trans h
                      refine lv_iconst (v := 0) hx hb dX7_readLine_265 (by decide) ?_
                      obtain rfl := Option.some.inj h
                      have hP9 := hP.sub (ws' := (bX7 a0 ur kr o255.2.1 (bX6 a1 up kp o255.2.2 []))) [0, 1, 2, 3, 4, 5, 6, 7, 8, 9, 10, 11, 12, 13] rfl
                      have hD9 := hD.sub (ws' := (bX7 a0 ur kr o255.2.1 (bX6 a1 up kp o255.2.2 []))) [0, 1, 2, 3, 4, 5, 6, 7, 8, 9, 10, 11, 12, 13] (by decide) rfl
                      have hK9 := hK.sub (tys' := []) [] rfl
                      rw [hQQ]
                      exact W.zret (v := (0 : Int32)) hx hb hr rfl (fun t ht hW => ⟨⟨(0 : Int32), (), rfl, ⟨rfl, (by decide)⟩, by rw [ht]; exact hP9, va_K.moved hW.alike hK9, hD9⟩, hS.F ht⟩) hS.2.2 dX7_readLine_266
                    · have h := (if_neg c258).symm.trans h
                      refine lv_iconst (v := 1) hx hb dX7_readLine_261 (by decide) ?_
                      refine lv_goto (tgt := 266) hx hb dX7_readLine_262 (by decide) ?_
                      obtain rfl := Option.some.inj h
                      have hP9 := hP.sub (ws' := (bX7 a0 ur kr o255.2.1 (bX6 a1 up kp o255.2.2 []))) [0, 1, 2, 3, 4, 5, 6, 7, 8, 9, 10, 11, 12, 13] rfl
                      have hD9 := hD.sub (ws' := (bX7 a0 ur kr o255.2.1 (bX6 a1 up kp o255.2.2 []))) [0, 1, 2, 3, 4, 5, 6, 7, 8, 9, 10, 11, 12, 13] (by decide) rfl
                      have hK9 := hK.sub (tys' := []) [] rfl
                      rw [hQQ]
                      exact W.zret (v := (1 : Int32)) hx hb hr rfl (fun t ht hW => ⟨⟨(1 : Int32), (), rfl, ⟨rfl, (by decide)⟩, by rw [ht]; exact hP9, va_K.moved hW.alike hK9, hD9⟩, hS.F ht⟩) hS.2.2 dX7_readLine_266
                refine lv_icmp_ge (tgt := 246) hx hb dX7_readLine_239 (by decide) (fun c239 => ?_) (fun c239 => ?_)
                · have h := (if_pos c239).symm.trans h
                  refine lv_iconst (v := 5) hx hb dX7_readLine_246 (by decide) ?_
                  exact J247 (5 : Int32) H _ ls h  hP hD hS (lv_sub hl [1, 2] rfl)
                · have h := (if_neg c239).symm.trans h
                  refine lv_iload_n hx hb dX7_readLine_242 rfl (lv_at hl 0 rfl) ?_
                  refine lv_goto (tgt := 247) hx hb dX7_readLine_243 (by decide) ?_
                  exact J247 v230_t0 H _ ls h  hP hD hS (lv_sub hl [1, 2] rfl)
              refine lv_icmp_ne (tgt := 229) hx hb dX7_readLine_221 (by decide) (fun c221 => ?_) (fun c221 => ?_)
              · have h := (if_neg c221).symm.trans h
                refine lv_iconst (v := 0) hx hb dX7_readLine_229 (by decide) ?_
                exact J230 (0 : Int32) H _ ls h  hP hD hS (lv_sub hl [0, 1] rfl)
              · have h := (if_pos c221).symm.trans h
                refine lv_bipush (v := 6) hx hb dX7_readLine_224 (by decide) ?_
                refine lv_goto (tgt := 230) hx hb dX7_readLine_226 (by decide) ?_
                exact J230 (6 : Int32) H _ ls h  hP hD hS (lv_sub hl [0, 1] rfl)
          · have h := (if_neg c169).symm.trans h
            refine lv_aload_n hx hb dX7_readLine_172 rfl (lv_at hl 0 rfl) ?_
            refine lv_aload_n hx hb dX7_readLine_173 rfl (lv_at hl 1 rfl) ?_
            refine lv_aload_n hx hb dX7_readLine_174 rfl (lv_at hl 1 rfl) ?_
            refine va_get (D := (dC, dI)) (ci := 4) (v := .int p_p.2.2.2.2.2.2.2.2.1) (C := RX6) (T := TX6) (N := 18) hx hb hts ifX7_readLine_X6 hown hK hP 0 rfl rfl 8 (by decide) (hts (.fieldLink RX7 115 "HookPier$Plan" "darkHunger" "I") (List.mem_of_getElem? (i := 8) rfl)) (fun _ h9 => h9) rfl dX7_readLine_175 ?_
            refine lv_iconst (v := (-1)) hx hb dX7_readLine_178 (by decide) ?_
            have J187 : ∀ (v187_t2 : Int32) (H : Heap) (locs : List Loc) (ls : Array Slot), f_X7_readLine_J187 r_r p_p v187_t2 = some out → va_P (dC, dI) vwCl (bX6 a1 up kp p_p (bX7 a0 ur kr r_r [])) H → va_D A (bX6 a1 up kp p_p (bX7 a0 ur kr r_r [])) → va_S A s.heap H locs → lv_has ls 3 [(0, .ref a0), (1, .ref a1)] → W p l e (headSpec vfX7_readLine { frames := 8, cells := 0, slots := 0, locals := 172 }).room s m ([.ref a0, .ref a1]).toArray below meth c H locs 0 0 QQ (F0 m 187 ls [.int v187_t2, .ref a1, .ref a0]) := by
              intro v187_t2 H locs ls h  hP hD hS hl
              rw [f_X7_readLine_J187] at h
              obtain ⟨o187, eo187, h⟩ := bd_of h
              refine cl_i (wc := (bX7 a0 ur kr r_r (bX6 a1 up kp p_p []))) (wr := []) (va_runV (As := [.ref a1, .int v187_t2]) (rest := []) ⟨hx, hb, hml, hown, hts⟩ (kfX7_opens l dC dI a0 a1 v187_t2 ur kr up kp r_r p_p H.size o187 eo187) (cwV 2 hts gfX7_readLine_2 rfl rfl rfl (by decide +kernel) ⟨(Nat.le_of_ble_eq_true rfl), (Nat.le_of_ble_eq_true rfl)⟩) (PV (hP.sub (ws' := (bX7 a0 ur kr r_r (bX6 a1 up kp p_p []))) [10, 11, 12, 13, 0, 1, 2, 3, 4, 5, 6, 7, 8, 9] rfl) (hK.sub (tys' := (tX7 kr (tX6 kp ([])))) [0, 1, 2, 3, 4, 5, 6, 7, 8, 9, 10, 11] rfl) (hD.sub (ws' := (bX7 a0 ur kr r_r (bX6 a1 up kp p_p []))) [10, 11, 12, 13, 0, 1, 2, 3, 4, 5, 6, 7, 8, 9] (by decide) rfl) hN 0 rfl rfl) rfl rfl hl.1 rfl (lv_room (Nat.le_of_ble_eq_true rfl)) dX7_readLine_187 ⟨(Nat.le_of_ble_eq_true rfl), (Nat.le_of_ble_eq_true rfl)⟩) hP hD hK hS hA [10, 11, 12, 13, 0, 1, 2, 3, 4, 5, 6, 7, 8, 9] [] rfl rfl (by decide) (by decide) (fun r187 _ H locs hw hP hD _ hS => ?_)
              obtain ⟨hw, br187⟩ := hw
              obtain rfl := hw
              have hP : va_P (dC, dI) vwCl (bX7 a0 ur kr o187.2 (bX6 a1 up kp p_p [])) H := hP
              have hD : va_D A (bX7 a0 ur kr o187.2 (bX6 a1 up kp p_p [])) := hD
              refine lv_if_eq (tgt := 205) hx hb dX7_readLine_190 (by decide) (fun c190 => ?_) (fun c190 => ?_)
              · have h := (if_pos c190).symm.trans h
                refine lv_iconst (v := 0) hx hb dX7_readLine_205 (by decide) ?_
                obtain rfl := Option.some.inj h
                have hP9 := hP.sub (ws' := (bX7 a0 ur kr o187.2 (bX6 a1 up kp p_p []))) [0, 1, 2, 3, 4, 5, 6, 7, 8, 9, 10, 11, 12, 13] rfl
                have hD9 := hD.sub (ws' := (bX7 a0 ur kr o187.2 (bX6 a1 up kp p_p []))) [0, 1, 2, 3, 4, 5, 6, 7, 8, 9, 10, 11, 12, 13] (by decide) rfl
                have hK9 := hK.sub (tys' := []) [] rfl
                rw [hQQ]
                exact W.zret (v := (0 : Int32)) hx hb hr rfl (fun t ht hW => ⟨⟨(0 : Int32), (), rfl, ⟨rfl, (by decide)⟩, by rw [ht]; exact hP9, va_K.moved hW.alike hK9, hD9⟩, hS.F ht⟩) hS.2.2 dX7_readLine_206
              · have h := (if_neg c190).symm.trans h
                refine lv_aload_n hx hb dX7_readLine_193 rfl (lv_at hl 0 rfl) ?_
                refine lv_aload_n hx hb dX7_readLine_194 rfl (lv_at hl 1 rfl) ?_
                obtain ⟨o195, eo195, h⟩ := bd_of h
                refine cl_i (wc := (bX7 a0 ur kr o187.2 (bX6 a1 up kp p_p []))) (wr := []) (va_runV (As := [.ref a1]) (rest := []) ⟨hx, hb, hml, hown, hts⟩ (kfX7_readDark l dC dI a0 a1 ur kr up kp o187.2 p_p H.size B o195 eo195) (cwV 1 hts gfX7_readLine_4 rfl rfl rfl (by decide +kernel) ⟨(Nat.le_of_ble_eq_true rfl), (Nat.le_of_ble_eq_true rfl)⟩) (PVF (hP.sub (ws' := (bX7 a0 ur kr o187.2 (bX6 a1 up kp p_p []))) [0, 1, 2, 3, 4, 5, 6, 7, 8, 9, 10, 11, 12, 13] rfl) (hK.sub (tys' := (tX7 kr (tX6 kp ([])))) [0, 1, 2, 3, 4, 5, 6, 7, 8, 9, 10, 11] rfl) (hD.sub (ws' := (bX7 a0 ur kr o187.2 (bX6 a1 up kp p_p []))) [0, 1, 2, 3, 4, 5, 6, 7, 8, 9, 10, 11, 12, 13] (by decide) rfl) hN hS hB hE S1n 0 rfl rfl) rfl rfl hl.1 rfl (lv_room (Nat.le_of_ble_eq_true rfl)) dX7_readLine_195 ⟨(Nat.le_of_ble_eq_true rfl), (Nat.le_of_ble_eq_true rfl)⟩) hP hD hK hS hA [0, 1, 2, 3, 4, 5, 6, 7, 8, 9, 10, 11, 12, 13] [] rfl rfl (by decide) (by decide) (fun r195 _ H locs hw hP hD _ hS => ?_)
                obtain ⟨hw, br195⟩ := hw
                obtain rfl := hw
                have hP : va_P (dC, dI) vwCl (bX7 a0 ur kr o195.2.1 (bX6 a1 up kp o195.2.2 [])) H := hP
                have hD : va_D A (bX7 a0 ur kr o195.2.1 (bX6 a1 up kp o195.2.2 [])) := hD
                refine lv_if_eq (tgt := 205) hx hb dX7_readLine_198 (by decide) (fun c198 => ?_) (fun c198 => ?_)
                · have h := (if_pos c198).symm.trans h
                  refine lv_iconst (v := 0) hx hb dX7_readLine_205 (by decide) ?_
                  obtain rfl := Option.some.inj h
                  have hP9 := hP.sub (ws' := (bX7 a0 ur kr o195.2.1 (bX6 a1 up kp o195.2.2 []))) [0, 1, 2, 3, 4, 5, 6, 7, 8, 9, 10, 11, 12, 13] rfl
                  have hD9 := hD.sub (ws' := (bX7 a0 ur kr o195.2.1 (bX6 a1 up kp o195.2.2 []))) [0, 1, 2, 3, 4, 5, 6, 7, 8, 9, 10, 11, 12, 13] (by decide) rfl
                  have hK9 := hK.sub (tys' := []) [] rfl
                  rw [hQQ]
                  exact W.zret (v := (0 : Int32)) hx hb hr rfl (fun t ht hW => ⟨⟨(0 : Int32), (), rfl, ⟨rfl, (by decide)⟩, by rw [ht]; exact hP9, va_K.moved hW.alike hK9, hD9⟩, hS.F ht⟩) hS.2.2 dX7_readLine_206
                · have h := (if_neg c198).symm.trans h
                  refine lv_iconst (v := 1) hx hb dX7_readLine_201 (by decide) ?_
                  refine lv_goto (tgt := 206) hx hb dX7_readLine_202 (by decide) ?_
                  obtain rfl := Option.some.inj h
                  have hP9 := hP.sub (ws' := (bX7 a0 ur kr o195.2.1 (bX6 a1 up kp o195.2.2 []))) [0, 1, 2, 3, 4, 5, 6, 7, 8, 9, 10, 11, 12, 13] rfl
                  have hD9 := hD.sub (ws' := (bX7 a0 ur kr o195.2.1 (bX6 a1 up kp o195.2.2 []))) [0, 1, 2, 3, 4, 5, 6, 7, 8, 9, 10, 11, 12, 13] (by decide) rfl
                  have hK9 := hK.sub (tys' := []) [] rfl
                  rw [hQQ]
                  exact W.zret (v := (1 : Int32)) hx hb hr rfl (fun t ht hW => ⟨⟨(1 : Int32), (), rfl, ⟨rfl, (by decide)⟩, by rw [ht]; exact hP9, va_K.moved hW.alike hK9, hD9⟩, hS.F ht⟩) hS.2.2 dX7_readLine_206
            refine lv_icmp_ne (tgt := 186) hx hb dX7_readLine_179 (by decide) (fun c179 => ?_) (fun c179 => ?_)
            · have h := (if_neg c179).symm.trans h
              refine lv_iconst (v := 3) hx hb dX7_readLine_186 (by decide) ?_
              exact J187 (3 : Int32) H _ ls h  hP hD hS (lv_sub hl [0, 1] rfl)
            · have h := (if_pos c179).symm.trans h
              refine lv_iconst (v := 0) hx hb dX7_readLine_182 (by decide) ?_
              refine lv_goto (tgt := 187) hx hb dX7_readLine_183 (by decide) ?_
              exact J187 (0 : Int32) H _ ls h  hP hD hS (lv_sub hl [0, 1] rfl)
        · have h := (if_neg c124).symm.trans h
          refine lv_aload_n hx hb dX7_readLine_127 rfl (lv_at hl 0 rfl) ?_
          refine lv_aload_n hx hb dX7_readLine_128 rfl (lv_at hl 1 rfl) ?_
          refine lv_aload_n hx hb dX7_readLine_129 rfl (lv_at hl 1 rfl) ?_
          refine va_get (D := (dC, dI)) (ci := 4) (v := .int p_p.2.2.2.2.2.2.1) (C := RX6) (T := TX6) (N := 18) hx hb hts ifX7_readLine_X6 hown hK hP 0 rfl rfl 6 (by decide) (hts (.fieldLink RX7 107 "HookPier$Plan" "answers" "I") (List.mem_of_getElem? (i := 19) rfl)) (fun _ h9 => h9) rfl dX7_readLine_130 ?_
          refine lv_bipush (v := 6) hx hb dX7_readLine_133 (by decide) ?_
          have J143 : ∀ (v143_t2 : Int32) (H : Heap) (locs : List Loc) (ls : Array Slot), f_X7_readLine_J143 r_r p_p v143_t2 = some out → va_P (dC, dI) vwCl (bX6 a1 up kp p_p (bX7 a0 ur kr r_r [])) H → va_D A (bX6 a1 up kp p_p (bX7 a0 ur kr r_r [])) → va_S A s.heap H locs → lv_has ls 3 [(0, .ref a0), (1, .ref a1)] → W p l e (headSpec vfX7_readLine { frames := 8, cells := 0, slots := 0, locals := 172 }).room s m ([.ref a0, .ref a1]).toArray below meth c H locs 0 0 QQ (F0 m 143 ls [.int v143_t2, .ref a1, .ref a0]) := by
            intro v143_t2 H locs ls h  hP hD hS hl
            rw [f_X7_readLine_J143] at h
            obtain ⟨o143, eo143, h⟩ := bd_of h
            refine cl_i (wc := (bX7 a0 ur kr r_r (bX6 a1 up kp p_p []))) (wr := []) (va_runV (As := [.ref a1, .int v143_t2]) (rest := []) ⟨hx, hb, hml, hown, hts⟩ (kfX7_opens l dC dI a0 a1 v143_t2 ur kr up kp r_r p_p H.size o143 eo143) (cwV 2 hts gfX7_readLine_2 rfl rfl rfl (by decide +kernel) ⟨(Nat.le_of_ble_eq_true rfl), (Nat.le_of_ble_eq_true rfl)⟩) (PV (hP.sub (ws' := (bX7 a0 ur kr r_r (bX6 a1 up kp p_p []))) [10, 11, 12, 13, 0, 1, 2, 3, 4, 5, 6, 7, 8, 9] rfl) (hK.sub (tys' := (tX7 kr (tX6 kp ([])))) [0, 1, 2, 3, 4, 5, 6, 7, 8, 9, 10, 11] rfl) (hD.sub (ws' := (bX7 a0 ur kr r_r (bX6 a1 up kp p_p []))) [10, 11, 12, 13, 0, 1, 2, 3, 4, 5, 6, 7, 8, 9] (by decide) rfl) hN 0 rfl rfl) rfl rfl hl.1 rfl (lv_room (Nat.le_of_ble_eq_true rfl)) dX7_readLine_143 ⟨(Nat.le_of_ble_eq_true rfl), (Nat.le_of_ble_eq_true rfl)⟩) hP hD hK hS hA [10, 11, 12, 13, 0, 1, 2, 3, 4, 5, 6, 7, 8, 9] [] rfl rfl (by decide) (by decide) (fun r143 _ H locs hw hP hD _ hS => ?_)
            obtain ⟨hw, br143⟩ := hw
            obtain rfl := hw
            have hP : va_P (dC, dI) vwCl (bX7 a0 ur kr o143.2 (bX6 a1 up kp p_p [])) H := hP
            have hD : va_D A (bX7 a0 ur kr o143.2 (bX6 a1 up kp p_p [])) := hD
            refine lv_if_eq (tgt := 161) hx hb dX7_readLine_146 (by decide) (fun c146 => ?_) (fun c146 => ?_)
            · have h := (if_pos c146).symm.trans h
              refine lv_iconst (v := 0) hx hb dX7_readLine_161 (by decide) ?_
              obtain rfl := Option.some.inj h
              have hP9 := hP.sub (ws' := (bX7 a0 ur kr o143.2 (bX6 a1 up kp p_p []))) [0, 1, 2, 3, 4, 5, 6, 7, 8, 9, 10, 11, 12, 13] rfl
              have hD9 := hD.sub (ws' := (bX7 a0 ur kr o143.2 (bX6 a1 up kp p_p []))) [0, 1, 2, 3, 4, 5, 6, 7, 8, 9, 10, 11, 12, 13] (by decide) rfl
              have hK9 := hK.sub (tys' := []) [] rfl
              rw [hQQ]
              exact W.zret (v := (0 : Int32)) hx hb hr rfl (fun t ht hW => ⟨⟨(0 : Int32), (), rfl, ⟨rfl, (by decide)⟩, by rw [ht]; exact hP9, va_K.moved hW.alike hK9, hD9⟩, hS.F ht⟩) hS.2.2 dX7_readLine_162
            · have h := (if_neg c146).symm.trans h
              refine lv_aload_n hx hb dX7_readLine_149 rfl (lv_at hl 0 rfl) ?_
              refine lv_aload_n hx hb dX7_readLine_150 rfl (lv_at hl 1 rfl) ?_
              obtain ⟨o151, eo151, h⟩ := bd_of h
              refine cl_i (wc := (bX7 a0 ur kr o143.2 (bX6 a1 up kp p_p []))) (wr := []) (va_runV (As := [.ref a1]) (rest := []) ⟨hx, hb, hml, hown, hts⟩ (kfX7_readAnswer l dC dI a0 a1 ur kr up kp o143.2 p_p H.size B o151 eo151) (cwV 1 hts gfX7_readLine_5 rfl rfl rfl (by decide +kernel) ⟨(Nat.le_of_ble_eq_true rfl), (Nat.le_of_ble_eq_true rfl)⟩) (PVF (hP.sub (ws' := (bX7 a0 ur kr o143.2 (bX6 a1 up kp p_p []))) [0, 1, 2, 3, 4, 5, 6, 7, 8, 9, 10, 11, 12, 13] rfl) (hK.sub (tys' := (tX7 kr (tX6 kp ([])))) [0, 1, 2, 3, 4, 5, 6, 7, 8, 9, 10, 11] rfl) (hD.sub (ws' := (bX7 a0 ur kr o143.2 (bX6 a1 up kp p_p []))) [0, 1, 2, 3, 4, 5, 6, 7, 8, 9, 10, 11, 12, 13] (by decide) rfl) hN hS hB hE S1n 0 rfl rfl) rfl rfl hl.1 rfl (lv_room (Nat.le_of_ble_eq_true rfl)) dX7_readLine_151 ⟨(Nat.le_of_ble_eq_true rfl), (Nat.le_of_ble_eq_true rfl)⟩) hP hD hK hS hA [0, 1, 2, 3, 4, 5, 6, 7, 8, 9, 10, 11, 12, 13] [] rfl rfl (by decide) (by decide) (fun r151 _ H locs hw hP hD _ hS => ?_)
              obtain ⟨hw, br151⟩ := hw
              obtain rfl := hw
              have hP : va_P (dC, dI) vwCl (bX7 a0 ur kr o151.2.1 (bX6 a1 up kp o151.2.2 [])) H := hP
              have hD : va_D A (bX7 a0 ur kr o151.2.1 (bX6 a1 up kp o151.2.2 [])) := hD
              refine lv_if_eq (tgt := 161) hx hb dX7_readLine_154 (by decide) (fun c154 => ?_) (fun c154 => ?_)
              · have h := (if_pos c154).symm.trans h
                refine lv_iconst (v := 0) hx hb dX7_readLine_161 (by decide) ?_
                obtain rfl := Option.some.inj h
                have hP9 := hP.sub (ws' := (bX7 a0 ur kr o151.2.1 (bX6 a1 up kp o151.2.2 []))) [0, 1, 2, 3, 4, 5, 6, 7, 8, 9, 10, 11, 12, 13] rfl
                have hD9 := hD.sub (ws' := (bX7 a0 ur kr o151.2.1 (bX6 a1 up kp o151.2.2 []))) [0, 1, 2, 3, 4, 5, 6, 7, 8, 9, 10, 11, 12, 13] (by decide) rfl
                have hK9 := hK.sub (tys' := []) [] rfl
                rw [hQQ]
                exact W.zret (v := (0 : Int32)) hx hb hr rfl (fun t ht hW => ⟨⟨(0 : Int32), (), rfl, ⟨rfl, (by decide)⟩, by rw [ht]; exact hP9, va_K.moved hW.alike hK9, hD9⟩, hS.F ht⟩) hS.2.2 dX7_readLine_162
              · have h := (if_neg c154).symm.trans h
                refine lv_iconst (v := 1) hx hb dX7_readLine_157 (by decide) ?_
                refine lv_goto (tgt := 162) hx hb dX7_readLine_158 (by decide) ?_
                obtain rfl := Option.some.inj h
                have hP9 := hP.sub (ws' := (bX7 a0 ur kr o151.2.1 (bX6 a1 up kp o151.2.2 []))) [0, 1, 2, 3, 4, 5, 6, 7, 8, 9, 10, 11, 12, 13] rfl
                have hD9 := hD.sub (ws' := (bX7 a0 ur kr o151.2.1 (bX6 a1 up kp o151.2.2 []))) [0, 1, 2, 3, 4, 5, 6, 7, 8, 9, 10, 11, 12, 13] (by decide) rfl
                have hK9 := hK.sub (tys' := []) [] rfl
                rw [hQQ]
                exact W.zret (v := (1 : Int32)) hx hb hr rfl (fun t ht hW => ⟨⟨(1 : Int32), (), rfl, ⟨rfl, (by decide)⟩, by rw [ht]; exact hP9, va_K.moved hW.alike hK9, hD9⟩, hS.F ht⟩) hS.2.2 dX7_readLine_162
          refine lv_icmp_ge (tgt := 142) hx hb dX7_readLine_135 (by decide) (fun c135 => ?_) (fun c135 => ?_)
          · have h := (if_pos c135).symm.trans h
            refine lv_iconst (v := 5) hx hb dX7_readLine_142 (by decide) ?_
            exact J143 (5 : Int32) H _ ls h  hP hD hS (lv_sub hl [0, 1] rfl)
          · have h := (if_neg c135).symm.trans h
            refine lv_iconst (v := 0) hx hb dX7_readLine_138 (by decide) ?_
            refine lv_goto (tgt := 143) hx hb dX7_readLine_139 (by decide) ?_
            exact J143 (0 : Int32) H _ ls h  hP hD hS (lv_sub hl [0, 1] rfl)
      · have h := (if_neg c80).symm.trans h
        refine lv_aload_n hx hb dX7_readLine_83 rfl (lv_at hl 0 rfl) ?_
        refine lv_aload_n hx hb dX7_readLine_84 rfl (lv_at hl 1 rfl) ?_
        refine lv_aload_n hx hb dX7_readLine_85 rfl (lv_at hl 1 rfl) ?_
        refine va_get (D := (dC, dI)) (ci := 4) (v := .int p_p.2.2.2.2.2.1) (C := RX6) (T := TX6) (N := 18) hx hb hts ifX7_readLine_X6 hown hK hP 0 rfl rfl 5 (by decide) (hts (.fieldLink RX7 99 "HookPier$Plan" "askers" "I") (List.mem_of_getElem? (i := 23) rfl)) (fun _ h9 => h9) rfl dX7_readLine_86 ?_
        refine lv_iconst (v := 5) hx hb dX7_readLine_89 (by decide) ?_
        have J98 : ∀ (v98_t2 : Int32) (H : Heap) (locs : List Loc) (ls : Array Slot), f_X7_readLine_J98 r_r p_p v98_t2 = some out → va_P (dC, dI) vwCl (bX6 a1 up kp p_p (bX7 a0 ur kr r_r [])) H → va_D A (bX6 a1 up kp p_p (bX7 a0 ur kr r_r [])) → va_S A s.heap H locs → lv_has ls 3 [(0, .ref a0), (1, .ref a1)] → W p l e (headSpec vfX7_readLine { frames := 8, cells := 0, slots := 0, locals := 172 }).room s m ([.ref a0, .ref a1]).toArray below meth c H locs 0 0 QQ (F0 m 98 ls [.int v98_t2, .ref a1, .ref a0]) := by
          intro v98_t2 H locs ls h  hP hD hS hl
          rw [f_X7_readLine_J98] at h
          obtain ⟨o98, eo98, h⟩ := bd_of h
          refine cl_i (wc := (bX7 a0 ur kr r_r (bX6 a1 up kp p_p []))) (wr := []) (va_runV (As := [.ref a1, .int v98_t2]) (rest := []) ⟨hx, hb, hml, hown, hts⟩ (kfX7_opens l dC dI a0 a1 v98_t2 ur kr up kp r_r p_p H.size o98 eo98) (cwV 2 hts gfX7_readLine_2 rfl rfl rfl (by decide +kernel) ⟨(Nat.le_of_ble_eq_true rfl), (Nat.le_of_ble_eq_true rfl)⟩) (PV (hP.sub (ws' := (bX7 a0 ur kr r_r (bX6 a1 up kp p_p []))) [10, 11, 12, 13, 0, 1, 2, 3, 4, 5, 6, 7, 8, 9] rfl) (hK.sub (tys' := (tX7 kr (tX6 kp ([])))) [0, 1, 2, 3, 4, 5, 6, 7, 8, 9, 10, 11] rfl) (hD.sub (ws' := (bX7 a0 ur kr r_r (bX6 a1 up kp p_p []))) [10, 11, 12, 13, 0, 1, 2, 3, 4, 5, 6, 7, 8, 9] (by decide) rfl) hN 0 rfl rfl) rfl rfl hl.1 rfl (lv_room (Nat.le_of_ble_eq_true rfl)) dX7_readLine_98 ⟨(Nat.le_of_ble_eq_true rfl), (Nat.le_of_ble_eq_true rfl)⟩) hP hD hK hS hA [10, 11, 12, 13, 0, 1, 2, 3, 4, 5, 6, 7, 8, 9] [] rfl rfl (by decide) (by decide) (fun r98 _ H locs hw hP hD _ hS => ?_)
          obtain ⟨hw, br98⟩ := hw
          obtain rfl := hw
          have hP : va_P (dC, dI) vwCl (bX7 a0 ur kr o98.2 (bX6 a1 up kp p_p [])) H := hP
          have hD : va_D A (bX7 a0 ur kr o98.2 (bX6 a1 up kp p_p [])) := hD
          refine lv_if_eq (tgt := 116) hx hb dX7_readLine_101 (by decide) (fun c101 => ?_) (fun c101 => ?_)
          · have h := (if_pos c101).symm.trans h
            refine lv_iconst (v := 0) hx hb dX7_readLine_116 (by decide) ?_
            obtain rfl := Option.some.inj h
            have hP9 := hP.sub (ws' := (bX7 a0 ur kr o98.2 (bX6 a1 up kp p_p []))) [0, 1, 2, 3, 4, 5, 6, 7, 8, 9, 10, 11, 12, 13] rfl
            have hD9 := hD.sub (ws' := (bX7 a0 ur kr o98.2 (bX6 a1 up kp p_p []))) [0, 1, 2, 3, 4, 5, 6, 7, 8, 9, 10, 11, 12, 13] (by decide) rfl
            have hK9 := hK.sub (tys' := []) [] rfl
            rw [hQQ]
            exact W.zret (v := (0 : Int32)) hx hb hr rfl (fun t ht hW => ⟨⟨(0 : Int32), (), rfl, ⟨rfl, (by decide)⟩, by rw [ht]; exact hP9, va_K.moved hW.alike hK9, hD9⟩, hS.F ht⟩) hS.2.2 dX7_readLine_117
          · have h := (if_neg c101).symm.trans h
            refine lv_aload_n hx hb dX7_readLine_104 rfl (lv_at hl 0 rfl) ?_
            refine lv_aload_n hx hb dX7_readLine_105 rfl (lv_at hl 1 rfl) ?_
            obtain ⟨o106, eo106, h⟩ := bd_of h
            refine cl_i (wc := (bX7 a0 ur kr o98.2 (bX6 a1 up kp p_p []))) (wr := []) (va_runV (As := [.ref a1]) (rest := []) ⟨hx, hb, hml, hown, hts⟩ (kfX7_readAsker l dC dI a0 a1 ur kr up kp o98.2 p_p H.size B o106 eo106) (cwV 1 hts gfX7_readLine_6 rfl rfl rfl (by decide +kernel) ⟨(Nat.le_of_ble_eq_true rfl), (Nat.le_of_ble_eq_true rfl)⟩) (PVF (hP.sub (ws' := (bX7 a0 ur kr o98.2 (bX6 a1 up kp p_p []))) [0, 1, 2, 3, 4, 5, 6, 7, 8, 9, 10, 11, 12, 13] rfl) (hK.sub (tys' := (tX7 kr (tX6 kp ([])))) [0, 1, 2, 3, 4, 5, 6, 7, 8, 9, 10, 11] rfl) (hD.sub (ws' := (bX7 a0 ur kr o98.2 (bX6 a1 up kp p_p []))) [0, 1, 2, 3, 4, 5, 6, 7, 8, 9, 10, 11, 12, 13] (by decide) rfl) hN hS hB hE S1n 0 rfl rfl) rfl rfl hl.1 rfl (lv_room (Nat.le_of_ble_eq_true rfl)) dX7_readLine_106 ⟨(Nat.le_of_ble_eq_true rfl), (Nat.le_of_ble_eq_true rfl)⟩) hP hD hK hS hA [0, 1, 2, 3, 4, 5, 6, 7, 8, 9, 10, 11, 12, 13] [] rfl rfl (by decide) (by decide) (fun r106 _ H locs hw hP hD _ hS => ?_)
            obtain ⟨hw, br106⟩ := hw
            obtain rfl := hw
            have hP : va_P (dC, dI) vwCl (bX7 a0 ur kr o106.2.1 (bX6 a1 up kp o106.2.2 [])) H := hP
            have hD : va_D A (bX7 a0 ur kr o106.2.1 (bX6 a1 up kp o106.2.2 [])) := hD
            refine lv_if_eq (tgt := 116) hx hb dX7_readLine_109 (by decide) (fun c109 => ?_) (fun c109 => ?_)
            · have h := (if_pos c109).symm.trans h
              refine lv_iconst (v := 0) hx hb dX7_readLine_116 (by decide) ?_
              obtain rfl := Option.some.inj h
              have hP9 := hP.sub (ws' := (bX7 a0 ur kr o106.2.1 (bX6 a1 up kp o106.2.2 []))) [0, 1, 2, 3, 4, 5, 6, 7, 8, 9, 10, 11, 12, 13] rfl
              have hD9 := hD.sub (ws' := (bX7 a0 ur kr o106.2.1 (bX6 a1 up kp o106.2.2 []))) [0, 1, 2, 3, 4, 5, 6, 7, 8, 9, 10, 11, 12, 13] (by decide) rfl
              have hK9 := hK.sub (tys' := []) [] rfl
              rw [hQQ]
              exact W.zret (v := (0 : Int32)) hx hb hr rfl (fun t ht hW => ⟨⟨(0 : Int32), (), rfl, ⟨rfl, (by decide)⟩, by rw [ht]; exact hP9, va_K.moved hW.alike hK9, hD9⟩, hS.F ht⟩) hS.2.2 dX7_readLine_117
            · have h := (if_neg c109).symm.trans h
              refine lv_iconst (v := 1) hx hb dX7_readLine_112 (by decide) ?_
              refine lv_goto (tgt := 117) hx hb dX7_readLine_113 (by decide) ?_
              obtain rfl := Option.some.inj h
              have hP9 := hP.sub (ws' := (bX7 a0 ur kr o106.2.1 (bX6 a1 up kp o106.2.2 []))) [0, 1, 2, 3, 4, 5, 6, 7, 8, 9, 10, 11, 12, 13] rfl
              have hD9 := hD.sub (ws' := (bX7 a0 ur kr o106.2.1 (bX6 a1 up kp o106.2.2 []))) [0, 1, 2, 3, 4, 5, 6, 7, 8, 9, 10, 11, 12, 13] (by decide) rfl
              have hK9 := hK.sub (tys' := []) [] rfl
              rw [hQQ]
              exact W.zret (v := (1 : Int32)) hx hb hr rfl (fun t ht hW => ⟨⟨(1 : Int32), (), rfl, ⟨rfl, (by decide)⟩, by rw [ht]; exact hP9, va_K.moved hW.alike hK9, hD9⟩, hS.F ht⟩) hS.2.2 dX7_readLine_117
        refine lv_icmp_ge (tgt := 97) hx hb dX7_readLine_90 (by decide) (fun c90 => ?_) (fun c90 => ?_)
        · have h := (if_pos c90).symm.trans h
          refine lv_iconst (v := 5) hx hb dX7_readLine_97 (by decide) ?_
          exact J98 (5 : Int32) H _ ls h  hP hD hS (lv_sub hl [0, 1] rfl)
        · have h := (if_neg c90).symm.trans h
          refine lv_iconst (v := 0) hx hb dX7_readLine_93 (by decide) ?_
          refine lv_goto (tgt := 98) hx hb dX7_readLine_94 (by decide) ?_
          exact J98 (0 : Int32) H _ ls h  hP hD hS (lv_sub hl [0, 1] rfl)
    · have h := (if_neg c36).symm.trans h
      refine lv_aload_n hx hb dX7_readLine_39 rfl (lv_at hl 0 rfl) ?_
      refine lv_aload_n hx hb dX7_readLine_40 rfl (lv_at hl 1 rfl) ?_
      refine lv_aload_n hx hb dX7_readLine_41 rfl (lv_at hl 1 rfl) ?_
      refine va_get (D := (dC, dI)) (ci := 4) (v := .int p_p.2.2.2.2.1) (C := RX6) (T := TX6) (N := 18) hx hb hts ifX7_readLine_X6 hown hK hP 0 rfl rfl 4 (by decide) (hts (.fieldLink RX7 69 "HookPier$Plan" "baits" "I") (List.mem_of_getElem? (i := 27) rfl)) (fun _ h9 => h9) rfl dX7_readLine_42 ?_
      refine lv_iconst (v := 4) hx hb dX7_readLine_45 (by decide) ?_
      have J54 : ∀ (v54_t2 : Int32) (H : Heap) (locs : List Loc) (ls : Array Slot), f_X7_readLine_J54 r_r p_p v54_t2 = some out → va_P (dC, dI) vwCl (bX6 a1 up kp p_p (bX7 a0 ur kr r_r [])) H → va_D A (bX6 a1 up kp p_p (bX7 a0 ur kr r_r [])) → va_S A s.heap H locs → lv_has ls 3 [(0, .ref a0), (1, .ref a1)] → W p l e (headSpec vfX7_readLine { frames := 8, cells := 0, slots := 0, locals := 172 }).room s m ([.ref a0, .ref a1]).toArray below meth c H locs 0 0 QQ (F0 m 54 ls [.int v54_t2, .ref a1, .ref a0]) := by
        intro v54_t2 H locs ls h  hP hD hS hl
        rw [f_X7_readLine_J54] at h
        obtain ⟨o54, eo54, h⟩ := bd_of h
        refine cl_i (wc := (bX7 a0 ur kr r_r (bX6 a1 up kp p_p []))) (wr := []) (va_runV (As := [.ref a1, .int v54_t2]) (rest := []) ⟨hx, hb, hml, hown, hts⟩ (kfX7_opens l dC dI a0 a1 v54_t2 ur kr up kp r_r p_p H.size o54 eo54) (cwV 2 hts gfX7_readLine_2 rfl rfl rfl (by decide +kernel) ⟨(Nat.le_of_ble_eq_true rfl), (Nat.le_of_ble_eq_true rfl)⟩) (PV (hP.sub (ws' := (bX7 a0 ur kr r_r (bX6 a1 up kp p_p []))) [10, 11, 12, 13, 0, 1, 2, 3, 4, 5, 6, 7, 8, 9] rfl) (hK.sub (tys' := (tX7 kr (tX6 kp ([])))) [0, 1, 2, 3, 4, 5, 6, 7, 8, 9, 10, 11] rfl) (hD.sub (ws' := (bX7 a0 ur kr r_r (bX6 a1 up kp p_p []))) [10, 11, 12, 13, 0, 1, 2, 3, 4, 5, 6, 7, 8, 9] (by decide) rfl) hN 0 rfl rfl) rfl rfl hl.1 rfl (lv_room (Nat.le_of_ble_eq_true rfl)) dX7_readLine_54 ⟨(Nat.le_of_ble_eq_true rfl), (Nat.le_of_ble_eq_true rfl)⟩) hP hD hK hS hA [10, 11, 12, 13, 0, 1, 2, 3, 4, 5, 6, 7, 8, 9] [] rfl rfl (by decide) (by decide) (fun r54 _ H locs hw hP hD _ hS => ?_)
        obtain ⟨hw, br54⟩ := hw
        obtain rfl := hw
        have hP : va_P (dC, dI) vwCl (bX7 a0 ur kr o54.2 (bX6 a1 up kp p_p [])) H := hP
        have hD : va_D A (bX7 a0 ur kr o54.2 (bX6 a1 up kp p_p [])) := hD
        refine lv_if_eq (tgt := 72) hx hb dX7_readLine_57 (by decide) (fun c57 => ?_) (fun c57 => ?_)
        · have h := (if_pos c57).symm.trans h
          refine lv_iconst (v := 0) hx hb dX7_readLine_72 (by decide) ?_
          obtain rfl := Option.some.inj h
          have hP9 := hP.sub (ws' := (bX7 a0 ur kr o54.2 (bX6 a1 up kp p_p []))) [0, 1, 2, 3, 4, 5, 6, 7, 8, 9, 10, 11, 12, 13] rfl
          have hD9 := hD.sub (ws' := (bX7 a0 ur kr o54.2 (bX6 a1 up kp p_p []))) [0, 1, 2, 3, 4, 5, 6, 7, 8, 9, 10, 11, 12, 13] (by decide) rfl
          have hK9 := hK.sub (tys' := []) [] rfl
          rw [hQQ]
          exact W.zret (v := (0 : Int32)) hx hb hr rfl (fun t ht hW => ⟨⟨(0 : Int32), (), rfl, ⟨rfl, (by decide)⟩, by rw [ht]; exact hP9, va_K.moved hW.alike hK9, hD9⟩, hS.F ht⟩) hS.2.2 dX7_readLine_73
        · have h := (if_neg c57).symm.trans h
          refine lv_aload_n hx hb dX7_readLine_60 rfl (lv_at hl 0 rfl) ?_
          refine lv_aload_n hx hb dX7_readLine_61 rfl (lv_at hl 1 rfl) ?_
          obtain ⟨o62, eo62, h⟩ := bd_of h
          refine cl_i (wc := (bX7 a0 ur kr o54.2 (bX6 a1 up kp p_p []))) (wr := []) (va_runV (As := [.ref a1]) (rest := []) ⟨hx, hb, hml, hown, hts⟩ (kfX7_readBait l dC dI a0 a1 ur kr up kp o54.2 p_p H.size B o62 eo62) (cwV 1 hts gfX7_readLine_7 rfl rfl rfl (by decide +kernel) ⟨(Nat.le_of_ble_eq_true rfl), (Nat.le_of_ble_eq_true rfl)⟩) (PVF (hP.sub (ws' := (bX7 a0 ur kr o54.2 (bX6 a1 up kp p_p []))) [0, 1, 2, 3, 4, 5, 6, 7, 8, 9, 10, 11, 12, 13] rfl) (hK.sub (tys' := (tX7 kr (tX6 kp ([])))) [0, 1, 2, 3, 4, 5, 6, 7, 8, 9, 10, 11] rfl) (hD.sub (ws' := (bX7 a0 ur kr o54.2 (bX6 a1 up kp p_p []))) [0, 1, 2, 3, 4, 5, 6, 7, 8, 9, 10, 11, 12, 13] (by decide) rfl) hN hS hB hE S1n 0 rfl rfl) rfl rfl hl.1 rfl (lv_room (Nat.le_of_ble_eq_true rfl)) dX7_readLine_62 ⟨(Nat.le_of_ble_eq_true rfl), (Nat.le_of_ble_eq_true rfl)⟩) hP hD hK hS hA [0, 1, 2, 3, 4, 5, 6, 7, 8, 9, 10, 11, 12, 13] [] rfl rfl (by decide) (by decide) (fun r62 _ H locs hw hP hD _ hS => ?_)
          obtain ⟨hw, br62⟩ := hw
          obtain rfl := hw
          have hP : va_P (dC, dI) vwCl (bX7 a0 ur kr o62.2.1 (bX6 a1 up kp o62.2.2 [])) H := hP
          have hD : va_D A (bX7 a0 ur kr o62.2.1 (bX6 a1 up kp o62.2.2 [])) := hD
          refine lv_if_eq (tgt := 72) hx hb dX7_readLine_65 (by decide) (fun c65 => ?_) (fun c65 => ?_)
          · have h := (if_pos c65).symm.trans h
            refine lv_iconst (v := 0) hx hb dX7_readLine_72 (by decide) ?_
            obtain rfl := Option.some.inj h
            have hP9 := hP.sub (ws' := (bX7 a0 ur kr o62.2.1 (bX6 a1 up kp o62.2.2 []))) [0, 1, 2, 3, 4, 5, 6, 7, 8, 9, 10, 11, 12, 13] rfl
            have hD9 := hD.sub (ws' := (bX7 a0 ur kr o62.2.1 (bX6 a1 up kp o62.2.2 []))) [0, 1, 2, 3, 4, 5, 6, 7, 8, 9, 10, 11, 12, 13] (by decide) rfl
            have hK9 := hK.sub (tys' := []) [] rfl
            rw [hQQ]
            exact W.zret (v := (0 : Int32)) hx hb hr rfl (fun t ht hW => ⟨⟨(0 : Int32), (), rfl, ⟨rfl, (by decide)⟩, by rw [ht]; exact hP9, va_K.moved hW.alike hK9, hD9⟩, hS.F ht⟩) hS.2.2 dX7_readLine_73
          · have h := (if_neg c65).symm.trans h
            refine lv_iconst (v := 1) hx hb dX7_readLine_68 (by decide) ?_
            refine lv_goto (tgt := 73) hx hb dX7_readLine_69 (by decide) ?_
            obtain rfl := Option.some.inj h
            have hP9 := hP.sub (ws' := (bX7 a0 ur kr o62.2.1 (bX6 a1 up kp o62.2.2 []))) [0, 1, 2, 3, 4, 5, 6, 7, 8, 9, 10, 11, 12, 13] rfl
            have hD9 := hD.sub (ws' := (bX7 a0 ur kr o62.2.1 (bX6 a1 up kp o62.2.2 []))) [0, 1, 2, 3, 4, 5, 6, 7, 8, 9, 10, 11, 12, 13] (by decide) rfl
            have hK9 := hK.sub (tys' := []) [] rfl
            rw [hQQ]
            exact W.zret (v := (1 : Int32)) hx hb hr rfl (fun t ht hW => ⟨⟨(1 : Int32), (), rfl, ⟨rfl, (by decide)⟩, by rw [ht]; exact hP9, va_K.moved hW.alike hK9, hD9⟩, hS.F ht⟩) hS.2.2 dX7_readLine_73
      refine lv_icmp_ge (tgt := 53) hx hb dX7_readLine_46 (by decide) (fun c46 => ?_) (fun c46 => ?_)
      · have h := (if_pos c46).symm.trans h
        refine lv_iconst (v := 5) hx hb dX7_readLine_53 (by decide) ?_
        exact J54 (5 : Int32) H _ ls h  hP hD hS (lv_sub hl [0, 1] rfl)
      · have h := (if_neg c46).symm.trans h
        refine lv_iconst (v := 0) hx hb dX7_readLine_49 (by decide) ?_
        refine lv_goto (tgt := 54) hx hb dX7_readLine_50 (by decide) ?_
        exact J54 (0 : Int32) H _ ls h  hP hD hS (lv_sub hl [0, 1] rfl)
  · have h := (if_neg c6).symm.trans h
    refine lv_aload_n hx hb dX7_readLine_9 rfl (lv_at hl 1 rfl) ?_
    refine va_get (D := (dC, dI)) (ci := 4) (v := .int p_p.1) (C := RX6) (T := TX6) (N := 18) hx hb hts ifX7_readLine_X6 hown hK hP 0 rfl rfl 0 (by decide) (hts (.fieldLink RX7 82 "HookPier$Plan" "spots" "I") (List.mem_of_getElem? (i := 31) rfl)) (fun _ h9 => h9) rfl dX7_readLine_10 ?_
    refine lv_if_ne (tgt := 24) hx hb dX7_readLine_13 (by decide) (fun c13 => ?_) (fun c13 => ?_)
    · have h := (if_neg c13).symm.trans h
      refine lv_aload_n hx hb dX7_readLine_24 rfl (lv_at hl 0 rfl) ?_
      refine lv_iconst (v := 3) hx hb dX7_readLine_25 (by decide) ?_
      obtain ⟨o26, eo26⟩ : ∃ o, o = f_X7_fail (3 : Int32) r_r := ⟨_, rfl⟩
      have h := nm_of h o26 eo26
      refine cl_i (wc := (bX7 a0 ur kr r_r [])) (wr := (bX6 a1 up kp p_p [])) (va_runV (As := [.int 3]) (rest := []) ⟨hx, hb, hml, hown, hts⟩ (kfX7_fail l dC dI a0 (3 : Int32) ur kr r_r H.size o26 eo26.symm) (cwV 1 hts gfX7_readLine_1 rfl rfl rfl (by decide +kernel) ⟨(Nat.le_of_ble_eq_true rfl), (Nat.le_of_ble_eq_true rfl)⟩) (PV (hP.sub (ws' := (bX7 a0 ur kr r_r [])) [10, 11, 12, 13] rfl) (hK.sub (tys' := (tX7 kr ([]))) [0, 1, 2] rfl) (hD.sub (ws' := (bX7 a0 ur kr r_r [])) [10, 11, 12, 13] (by decide) rfl) hN 0 rfl rfl) rfl rfl hl.1 rfl (lv_room (Nat.le_of_ble_eq_true rfl)) dX7_readLine_26 ⟨(Nat.le_of_ble_eq_true rfl), (Nat.le_of_ble_eq_true rfl)⟩) hP hD hK hS hA [10, 11, 12, 13] [0, 1, 2, 3, 4, 5, 6, 7, 8, 9] rfl rfl (by decide) (by decide) (fun r26 _ H locs hw hP hD _ hS => ?_)
      obtain ⟨hw, br26⟩ := hw
      obtain rfl := hw
      have hP : va_P (dC, dI) vwCl (bX6 a1 up kp p_p (bX7 a0 ur kr o26 [])) H := hP
      have hD : va_D A (bX6 a1 up kp p_p (bX7 a0 ur kr o26 [])) := hD
      obtain rfl := Option.some.inj h
      have hP9 := hP.sub (ws' := (bX7 a0 ur kr o26 (bX6 a1 up kp p_p []))) [10, 11, 12, 13, 0, 1, 2, 3, 4, 5, 6, 7, 8, 9] rfl
      have hD9 := hD.sub (ws' := (bX7 a0 ur kr o26 (bX6 a1 up kp p_p []))) [10, 11, 12, 13, 0, 1, 2, 3, 4, 5, 6, 7, 8, 9] (by decide) rfl
      have hK9 := hK.sub (tys' := []) [] rfl
      rw [hQQ]
      exact W.zret (v := (0 : Int32)) hx hb hr rfl (fun t ht hW => ⟨⟨(0 : Int32), (), rfl, ⟨rfl, (by decide)⟩, by rw [ht]; exact hP9, va_K.moved hW.alike hK9, hD9⟩, hS.F ht⟩) hS.2.2 dX7_readLine_29
    · have h := (if_pos c13).symm.trans h
      refine lv_aload_n hx hb dX7_readLine_16 rfl (lv_at hl 0 rfl) ?_
      refine lv_aload_n hx hb dX7_readLine_17 rfl (lv_at hl 1 rfl) ?_
      obtain ⟨o18, eo18, h⟩ := bd_of h
      refine cl_i (wc := (bX7 a0 ur kr r_r (bX6 a1 up kp p_p []))) (wr := []) (va_runV (As := [.ref a1]) (rest := []) ⟨hx, hb, hml, hown, hts⟩ (kfX7_readPier l dC dI a0 a1 ur kr up kp r_r p_p H.size B o18 eo18) (cwV 1 hts gfX7_readLine_8 rfl rfl rfl (by decide +kernel) ⟨(Nat.le_of_ble_eq_true rfl), (Nat.le_of_ble_eq_true rfl)⟩) (PVF (hP.sub (ws' := (bX7 a0 ur kr r_r (bX6 a1 up kp p_p []))) [10, 11, 12, 13, 0, 1, 2, 3, 4, 5, 6, 7, 8, 9] rfl) (hK.sub (tys' := (tX7 kr (tX6 kp ([])))) [0, 1, 2, 3, 4, 5, 6, 7, 8, 9, 10, 11] rfl) (hD.sub (ws' := (bX7 a0 ur kr r_r (bX6 a1 up kp p_p []))) [10, 11, 12, 13, 0, 1, 2, 3, 4, 5, 6, 7, 8, 9] (by decide) rfl) hN hS hB hE S1n 0 rfl rfl) rfl rfl hl.1 rfl (lv_room (Nat.le_of_ble_eq_true rfl)) dX7_readLine_18 ⟨(Nat.le_of_ble_eq_true rfl), (Nat.le_of_ble_eq_true rfl)⟩) hP hD hK hS hA [10, 11, 12, 13, 0, 1, 2, 3, 4, 5, 6, 7, 8, 9] [] rfl rfl (by decide) (by decide) (fun r18 _ H locs hw hP hD _ hS => ?_)
      obtain ⟨hw, br18⟩ := hw
      obtain rfl := hw
      have hP : va_P (dC, dI) vwCl (bX7 a0 ur kr o18.2.1 (bX6 a1 up kp o18.2.2 [])) H := hP
      have hD : va_D A (bX7 a0 ur kr o18.2.1 (bX6 a1 up kp o18.2.2 [])) := hD
      refine lv_goto (tgt := 29) hx hb dX7_readLine_21 (by decide) ?_
      obtain rfl := Option.some.inj h
      have hP9 := hP.sub (ws' := (bX7 a0 ur kr o18.2.1 (bX6 a1 up kp o18.2.2 []))) [0, 1, 2, 3, 4, 5, 6, 7, 8, 9, 10, 11, 12, 13] rfl
      have hD9 := hD.sub (ws' := (bX7 a0 ur kr o18.2.1 (bX6 a1 up kp o18.2.2 []))) [0, 1, 2, 3, 4, 5, 6, 7, 8, 9, 10, 11, 12, 13] (by decide) rfl
      have hK9 := hK.sub (tys' := []) [] rfl
      rw [hQQ]
      exact W.zret (v := o18.1) hx hb hr (narz br18) (fun t ht hW => ⟨⟨o18.1, (), rfl, ⟨rfl, br18⟩, by rw [ht]; exact hP9, va_K.moved hW.alike hK9, hD9⟩, hS.F ht⟩) hS.2.2 dX7_readLine_29
theorem dX6_clear_0 : decode cX6_clear 0 = .ok (.aload_n 0, 1) := by decide +kernel
theorem dX6_clear_1 : decode cX6_clear 1 = .ok (.iconst 0, 1) := by decide +kernel
theorem dX6_clear_10 : decode cX6_clear 10 = .ok (.aload_n 0, 1) := by decide +kernel
theorem dX6_clear_11 : decode cX6_clear 11 = .ok (.iconst 0, 1) := by decide +kernel
theorem dX6_clear_12 : decode cX6_clear 12 = .ok (.putfield 24, 3) := by decide +kernel
theorem dX6_clear_15 : decode cX6_clear 15 = .ok (.aload_n 0, 1) := by decide +kernel
theorem dX6_clear_16 : decode cX6_clear 16 = .ok (.iconst 0, 1) := by decide +kernel
theorem dX6_clear_17 : decode cX6_clear 17 = .ok (.putfield 27, 3) := by decide +kernel
theorem dX6_clear_2 : decode cX6_clear 2 = .ok (.putfield 9, 3) := by decide +kernel
theorem dX6_clear_20 : decode cX6_clear 20 = .ok (.aload_n 0, 1) := by decide +kernel
theorem dX6_clear_21 : decode cX6_clear 21 = .ok (.iconst 0, 1) := by decide +kernel
theorem dX6_clear_22 : decode cX6_clear 22 = .ok (.putfield 30, 3) := by decide +kernel
theorem dX6_clear_25 : decode cX6_clear 25 = .ok (.aload_n 0, 1) := by decide +kernel
theorem dX6_clear_26 : decode cX6_clear 26 = .ok (.iconst 0, 1) := by decide +kernel
theorem dX6_clear_27 : decode cX6_clear 27 = .ok (.putfield 33, 3) := by decide +kernel
theorem dX6_clear_30 : decode cX6_clear 30 = .ok (.aload_n 0, 1) := by decide +kernel
theorem dX6_clear_31 : decode cX6_clear 31 = .ok (.iconst (-1), 1) := by decide +kernel
theorem dX6_clear_32 : decode cX6_clear 32 = .ok (.putfield 36, 3) := by decide +kernel
theorem dX6_clear_35 : decode cX6_clear 35 = .ok (.return_, 1) := by decide +kernel
theorem dX6_clear_5 : decode cX6_clear 5 = .ok (.aload_n 0, 1) := by decide +kernel
theorem dX6_clear_6 : decode cX6_clear 6 = .ok (.iconst 0, 1) := by decide +kernel
theorem dX6_clear_7 : decode cX6_clear 7 = .ok (.putfield 15, 3) := by decide +kernel
def vfX6_clear : List Cond := List.cons (.code yX6_clear cX6_clear 1 none) (apW [.fieldLink RX6 9 "HookPier$Plan" "spots" "I", .fieldLink RX6 15 "HookPier$Plan" "deep" "I", .fieldLink RX6 24 "HookPier$Plan" "baits" "I", .fieldLink RX6 27 "HookPier$Plan" "askers" "I", .fieldLink RX6 30 "HookPier$Plan" "answers" "I", .fieldLink RX6 33 "HookPier$Plan" "bites" "I", .fieldLink RX6 36 "HookPier$Plan" "darkHunger" "I"] (wsX60))
theorem ifX6_clear_X6 : ∀ w ∈ wsX60, w ∈ vfX6_clear := fun _ h => (List.mem_cons_of_mem _ (List.mem_append_right _ h))
theorem qfX6_clear : Good vfX6_clear := gd_cons (by decide +kernel) (gd_app (gd_dec (by decide +kernel) : Good [.fieldLink RX6 9 "HookPier$Plan" "spots" "I", .fieldLink RX6 15 "HookPier$Plan" "deep" "I", .fieldLink RX6 24 "HookPier$Plan" "baits" "I", .fieldLink RX6 27 "HookPier$Plan" "askers" "I", .fieldLink RX6 30 "HookPier$Plan" "answers" "I", .fieldLink RX6 33 "HookPier$Plan" "bites" "I", .fieldLink RX6 36 "HookPier$Plan" "darkHunger" "I"]) qsX6)
set_option maxHeartbeats 2000000 in
set_option maxRecDepth 100000 in
theorem kfX6_clear (l : Launch) (dC : Nat → ClassId) (dI : Nat → Nat → Nat) (a0 : Nat) (up : Nat → Nat) (kp : Nat → ClassId) (p_p : TX6_p) (sz : Nat) (out : TX6_p) (h : f_X6_clear p_p = out) : Met l yX6_clear vfX6_clear ({ frames := 0, cells := 0, slots := 0, locals := 0 }) (PC (dC, dI) [.ref a0] sz (bX6 a0 up kp p_p []) (tX6 kp ([]))) (va_Qv (S := Unit) (fun _ => True) (fun _ t => BC (dC, dI) (va_A (bX6 a0 up kp p_p []) sz) (bX6 a0 up kp out []) [] t) (va_A (bX6 a0 up kp p_p []) sz)) 0 0 (va_A (bX6 a0 up kp p_p []) sz) := by
  refine Met.ofW (cc := cX6_clear) (maxL := 1) (ret := none) (by decide) rfl ?_
  intro p e s m args below meth c s₁ B0 hml hv
  obtain ⟨rfl, hsz, hP, hK, hD0, hN⟩ := hv
  have hx := B0.exec
  have hb := B0.bytes
  have hr := B0.returns
  have hts := atoms_spec (ws := vfX6_clear) B0.pre
  have hown : s.vm.findClass RX6 = some m.cls := findClass_of_methodNamed B0.named
  have hlocks := B0.notSynchronized
  subst hsz
  have hD := hD0.self (sz := s.heap.size)
  generalize hAe : va_A (bX6 a0 up kp p_p []) s.heap.size = A at hD ⊢
  have hA : ∀ q : Nat, s.heap.size ≤ q → A q := fun q h => by rw [← hAe]; exact Or.inr h
  have hS : va_S A s.heap s.heap [] := va_S.rf
  have hP : va_P (dC, dI) vwCl (bX6 a0 up kp p_p []) s.heap := hP
  have hl := lv_entry ([.ref a0]) (n := 1) (Nat.le_of_ble_eq_true rfl)
  rw [lg_entry_eq]
  generalize (lg_sl ([.ref a0]) ++ List.replicate (1 - (lg_sl ([.ref a0])).length) Slot.unset).toArray = ls at hl ⊢
  have hl : lv_has ls 1 [(0, .ref a0)] := hl
  refine W_q (fun QQ hQQ => ?_)
  rw [f_X6_clear] at h
  refine lv_aload_n hx hb dX6_clear_0 rfl (lv_at hl 0 rfl) ?_
  refine lv_iconst (v := 0) hx hb dX6_clear_1 (by decide) ?_
  refine va_put (D := (dC, dI)) (ci := 4) (v := .int 0) (ty := .int) (C := RX6) (T := TX6) (N := 18) hx hb hts ifX6_clear_X6 tyX6 tyX6_ok nmX6 hown hK hP hD hS 0 rfl rfl 0 (by decide) (hts (.fieldLink RX6 9 "HookPier$Plan" "spots" "I") (List.mem_of_getElem? (i := 1) rfl)) (fun _ h9 => h9) rfl (by decide +kernel) rfl rfl (Nat.le_of_ble_eq_true rfl) dX6_clear_2 (fun H locs hP hD hS => ?_)
  have hP : va_P (dC, dI) vwCl (bX6 a0 up kp ((0 : Int32), p_p.2) []) H := hP
  have hD : va_D A (bX6 a0 up kp ((0 : Int32), p_p.2) []) := hD
  refine lv_aload_n hx hb dX6_clear_5 rfl (lv_at hl 0 rfl) ?_
  refine lv_iconst (v := 0) hx hb dX6_clear_6 (by decide) ?_
  refine va_put (D := (dC, dI)) (ci := 4) (v := .int 0) (ty := .int) (C := RX6) (T := TX6) (N := 18) hx hb hts ifX6_clear_X6 tyX6 tyX6_ok nmX6 hown hK hP hD hS 0 rfl rfl 1 (by decide) (hts (.fieldLink RX6 15 "HookPier$Plan" "deep" "I") (List.mem_of_getElem? (i := 2) rfl)) (fun _ h9 => h9) rfl (by decide +kernel) rfl rfl (Nat.le_of_ble_eq_true rfl) dX6_clear_7 (fun H locs hP hD hS => ?_)
  have hP : va_P (dC, dI) vwCl (bX6 a0 up kp ((0 : Int32), (0 : Int32), p_p.2.2) []) H := hP
  have hD : va_D A (bX6 a0 up kp ((0 : Int32), (0 : Int32), p_p.2.2) []) := hD
  refine lv_aload_n hx hb dX6_clear_10 rfl (lv_at hl 0 rfl) ?_
  refine lv_iconst (v := 0) hx hb dX6_clear_11 (by decide) ?_
  refine va_put (D := (dC, dI)) (ci := 4) (v := .int 0) (ty := .int) (C := RX6) (T := TX6) (N := 18) hx hb hts ifX6_clear_X6 tyX6 tyX6_ok nmX6 hown hK hP hD hS 0 rfl rfl 4 (by decide) (hts (.fieldLink RX6 24 "HookPier$Plan" "baits" "I") (List.mem_of_getElem? (i := 3) rfl)) (fun _ h9 => h9) rfl (by decide +kernel) rfl rfl (Nat.le_of_ble_eq_true rfl) dX6_clear_12 (fun H locs hP hD hS => ?_)
  have hP : va_P (dC, dI) vwCl (bX6 a0 up kp ((0 : Int32), (0 : Int32), p_p.2.2.1, p_p.2.2.2.1, (0 : Int32), p_p.2.2.2.2.2) []) H := hP
  have hD : va_D A (bX6 a0 up kp ((0 : Int32), (0 : Int32), p_p.2.2.1, p_p.2.2.2.1, (0 : Int32), p_p.2.2.2.2.2) []) := hD
  refine lv_aload_n hx hb dX6_clear_15 rfl (lv_at hl 0 rfl) ?_
  refine lv_iconst (v := 0) hx hb dX6_clear_16 (by decide) ?_
  refine va_put (D := (dC, dI)) (ci := 4) (v := .int 0) (ty := .int) (C := RX6) (T := TX6) (N := 18) hx hb hts ifX6_clear_X6 tyX6 tyX6_ok nmX6 hown hK hP hD hS 0 rfl rfl 5 (by decide) (hts (.fieldLink RX6 27 "HookPier$Plan" "askers" "I") (List.mem_of_getElem? (i := 4) rfl)) (fun _ h9 => h9) rfl (by decide +kernel) rfl rfl (Nat.le_of_ble_eq_true rfl) dX6_clear_17 (fun H locs hP hD hS => ?_)
  have hP : va_P (dC, dI) vwCl (bX6 a0 up kp ((0 : Int32), (0 : Int32), p_p.2.2.1, p_p.2.2.2.1, (0 : Int32), (0 : Int32), p_p.2.2.2.2.2.2) []) H := hP
  have hD : va_D A (bX6 a0 up kp ((0 : Int32), (0 : Int32), p_p.2.2.1, p_p.2.2.2.1, (0 : Int32), (0 : Int32), p_p.2.2.2.2.2.2) []) := hD
  refine lv_aload_n hx hb dX6_clear_20 rfl (lv_at hl 0 rfl) ?_
  refine lv_iconst (v := 0) hx hb dX6_clear_21 (by decide) ?_
  refine va_put (D := (dC, dI)) (ci := 4) (v := .int 0) (ty := .int) (C := RX6) (T := TX6) (N := 18) hx hb hts ifX6_clear_X6 tyX6 tyX6_ok nmX6 hown hK hP hD hS 0 rfl rfl 6 (by decide) (hts (.fieldLink RX6 30 "HookPier$Plan" "answers" "I") (List.mem_of_getElem? (i := 5) rfl)) (fun _ h9 => h9) rfl (by decide +kernel) rfl rfl (Nat.le_of_ble_eq_true rfl) dX6_clear_22 (fun H locs hP hD hS => ?_)
  have hP : va_P (dC, dI) vwCl (bX6 a0 up kp ((0 : Int32), (0 : Int32), p_p.2.2.1, p_p.2.2.2.1, (0 : Int32), (0 : Int32), (0 : Int32), p_p.2.2.2.2.2.2.2) []) H := hP
  have hD : va_D A (bX6 a0 up kp ((0 : Int32), (0 : Int32), p_p.2.2.1, p_p.2.2.2.1, (0 : Int32), (0 : Int32), (0 : Int32), p_p.2.2.2.2.2.2.2) []) := hD
  refine lv_aload_n hx hb dX6_clear_25 rfl (lv_at hl 0 rfl) ?_
  refine lv_iconst (v := 0) hx hb dX6_clear_26 (by decide) ?_
  refine va_put (D := (dC, dI)) (ci := 4) (v := .int 0) (ty := .int) (C := RX6) (T := TX6) (N := 18) hx hb hts ifX6_clear_X6 tyX6 tyX6_ok nmX6 hown hK hP hD hS 0 rfl rfl 7 (by decide) (hts (.fieldLink RX6 33 "HookPier$Plan" "bites" "I") (List.mem_of_getElem? (i := 6) rfl)) (fun _ h9 => h9) rfl (by decide +kernel) rfl rfl (Nat.le_of_ble_eq_true rfl) dX6_clear_27 (fun H locs hP hD hS => ?_)
  have hP : va_P (dC, dI) vwCl (bX6 a0 up kp ((0 : Int32), (0 : Int32), p_p.2.2.1, p_p.2.2.2.1, (0 : Int32), (0 : Int32), (0 : Int32), (0 : Int32), p_p.2.2.2.2.2.2.2.2) []) H := hP
  have hD : va_D A (bX6 a0 up kp ((0 : Int32), (0 : Int32), p_p.2.2.1, p_p.2.2.2.1, (0 : Int32), (0 : Int32), (0 : Int32), (0 : Int32), p_p.2.2.2.2.2.2.2.2) []) := hD
  refine lv_aload_n hx hb dX6_clear_30 rfl (lv_at hl 0 rfl) ?_
  refine lv_iconst (v := (-1)) hx hb dX6_clear_31 (by decide) ?_
  refine va_put (D := (dC, dI)) (ci := 4) (v := .int (-1)) (ty := .int) (C := RX6) (T := TX6) (N := 18) hx hb hts ifX6_clear_X6 tyX6 tyX6_ok nmX6 hown hK hP hD hS 0 rfl rfl 8 (by decide) (hts (.fieldLink RX6 36 "HookPier$Plan" "darkHunger" "I") (List.mem_of_getElem? (i := 7) rfl)) (fun _ h9 => h9) rfl (by decide +kernel) rfl rfl (Nat.le_of_ble_eq_true rfl) dX6_clear_32 (fun H locs hP hD hS => ?_)
  have hP : va_P (dC, dI) vwCl (bX6 a0 up kp ((0 : Int32), (0 : Int32), p_p.2.2.1, p_p.2.2.2.1, (0 : Int32), (0 : Int32), (0 : Int32), (0 : Int32), (-1 : Int32), p_p.2.2.2.2.2.2.2.2.2) []) H := hP
  have hD : va_D A (bX6 a0 up kp ((0 : Int32), (0 : Int32), p_p.2.2.1, p_p.2.2.2.1, (0 : Int32), (0 : Int32), (0 : Int32), (0 : Int32), (-1 : Int32), p_p.2.2.2.2.2.2.2.2.2) []) := hD
  obtain rfl := h
  have hP9 := hP.sub (ws' := (bX6 a0 up kp ((0 : Int32), (0 : Int32), p_p.2.2.1, p_p.2.2.2.1, (0 : Int32), (0 : Int32), (0 : Int32), (0 : Int32), (-1 : Int32), p_p.2.2.2.2.2.2.2.2.2) [])) [0, 1, 2, 3, 4, 5, 6, 7, 8, 9] rfl
  have hD9 := hD.sub (ws' := (bX6 a0 up kp ((0 : Int32), (0 : Int32), p_p.2.2.1, p_p.2.2.2.1, (0 : Int32), (0 : Int32), (0 : Int32), (0 : Int32), (-1 : Int32), p_p.2.2.2.2.2.2.2.2.2) [])) [0, 1, 2, 3, 4, 5, 6, 7, 8, 9] (by decide) rfl
  have hK9 := hK.sub (tys' := []) [] rfl
  rw [hQQ]
  exact W.vret hx hb hr (fun t ht hW => ⟨⟨(), rfl, trivial, by rw [ht]; exact hP9, va_K.moved hW.alike hK9, hD9⟩, hS.F ht⟩) hS.2.2 dX6_clear_35
theorem dX7_read_0 : decode cX7_read 0 = .ok (.aload_n 0, 1) := by decide +kernel
theorem dX7_read_1 : decode cX7_read 1 = .ok (.iload_n 1, 1) := by decide +kernel
theorem dX7_read_102 : decode cX7_read 102 = .ok (.aload_n 0, 1) := by decide +kernel
theorem dX7_read_103 : decode cX7_read 103 = .ok (.iconst 1, 1) := by decide +kernel
theorem dX7_read_104 : decode cX7_read 104 = .ok (.invokevirtual 72, 3) := by decide +kernel
theorem dX7_read_107 : decode cX7_read 107 = .ok (.ireturn, 1) := by decide +kernel
theorem dX7_read_108 : decode cX7_read 108 = .ok (.aload_n 0, 1) := by decide +kernel
theorem dX7_read_109 : decode cX7_read 109 = .ok (.invokevirtual 62, 3) := by decide +kernel
theorem dX7_read_112 : decode cX7_read 112 = .ok (.iinc 3 1, 3) := by decide +kernel
theorem dX7_read_115 : decode cX7_read 115 = .ok (.goto (-68), 3) := by decide +kernel
theorem dX7_read_118 : decode cX7_read 118 = .ok (.aload_n 0, 1) := by decide +kernel
theorem dX7_read_119 : decode cX7_read 119 = .ok (.iconst 1, 1) := by decide +kernel
theorem dX7_read_12 : decode cX7_read 12 = .ok (.aload_n 0, 1) := by decide +kernel
theorem dX7_read_120 : decode cX7_read 120 = .ok (.invokevirtual 72, 3) := by decide +kernel
theorem dX7_read_123 : decode cX7_read 123 = .ok (.ireturn, 1) := by decide +kernel
theorem dX7_read_13 : decode cX7_read 13 = .ok (.iconst 0, 1) := by decide +kernel
theorem dX7_read_14 : decode cX7_read 14 = .ok (.putfield 15, 3) := by decide +kernel
theorem dX7_read_17 : decode cX7_read 17 = .ok (.aload_n 0, 1) := by decide +kernel
theorem dX7_read_18 : decode cX7_read 18 = .ok (.iconst 0, 1) := by decide +kernel
theorem dX7_read_19 : decode cX7_read 19 = .ok (.putfield 28, 3) := by decide +kernel
theorem dX7_read_2 : decode cX7_read 2 = .ok (.aload_n 0, 1) := by decide +kernel
theorem dX7_read_22 : decode cX7_read 22 = .ok (.aload_n 0, 1) := by decide +kernel
theorem dX7_read_23 : decode cX7_read 23 = .ok (.iconst 0, 1) := by decide +kernel
theorem dX7_read_24 : decode cX7_read 24 = .ok (.putfield 42, 3) := by decide +kernel
theorem dX7_read_27 : decode cX7_read 27 = .ok (.aload_n 0, 1) := by decide +kernel
theorem dX7_read_28 : decode cX7_read 28 = .ok (.iconst 0, 1) := by decide +kernel
theorem dX7_read_29 : decode cX7_read 29 = .ok (.putfield 45, 3) := by decide +kernel
theorem dX7_read_3 : decode cX7_read 3 = .ok (.getfield 15, 3) := by decide +kernel
theorem dX7_read_32 : decode cX7_read 32 = .ok (.aload_n 0, 1) := by decide +kernel
theorem dX7_read_33 : decode cX7_read 33 = .ok (.iconst (-1), 1) := by decide +kernel
theorem dX7_read_34 : decode cX7_read 34 = .ok (.putfield 48, 3) := by decide +kernel
theorem dX7_read_37 : decode cX7_read 37 = .ok (.aload_n 2, 1) := by decide +kernel
theorem dX7_read_38 : decode cX7_read 38 = .ok (.invokevirtual 57, 3) := by decide +kernel
theorem dX7_read_41 : decode cX7_read 41 = .ok (.aload_n 0, 1) := by decide +kernel
theorem dX7_read_42 : decode cX7_read 42 = .ok (.invokevirtual 62, 3) := by decide +kernel
theorem dX7_read_45 : decode cX7_read 45 = .ok (.iconst 0, 1) := by decide +kernel
theorem dX7_read_46 : decode cX7_read 46 = .ok (.istore_n 3, 1) := by decide +kernel
theorem dX7_read_47 : decode cX7_read 47 = .ok (.iload_n 3, 1) := by decide +kernel
theorem dX7_read_48 : decode cX7_read 48 = .ok (.aload_n 0, 1) := by decide +kernel
theorem dX7_read_49 : decode cX7_read 49 = .ok (.getfield 19, 3) := by decide +kernel
theorem dX7_read_52 : decode cX7_read 52 = .ok (.if_icmp .gt 66, 3) := by decide +kernel
theorem dX7_read_55 : decode cX7_read 55 = .ok (.aload_n 0, 1) := by decide +kernel
theorem dX7_read_56 : decode cX7_read 56 = .ok (.aload_n 2, 1) := by decide +kernel
theorem dX7_read_57 : decode cX7_read 57 = .ok (.invokevirtual 65, 3) := by decide +kernel
theorem dX7_read_6 : decode cX7_read 6 = .ok (.invokestatic 51, 3) := by decide +kernel
theorem dX7_read_60 : decode cX7_read 60 = .ok (.ifCond .ne 5, 3) := by decide +kernel
theorem dX7_read_63 : decode cX7_read 63 = .ok (.iconst 0, 1) := by decide +kernel
theorem dX7_read_64 : decode cX7_read 64 = .ok (.ireturn, 1) := by decide +kernel
theorem dX7_read_65 : decode cX7_read 65 = .ok (.aload_n 0, 1) := by decide +kernel
theorem dX7_read_66 : decode cX7_read 66 = .ok (.getfield 22, 3) := by decide +kernel
theorem dX7_read_69 : decode cX7_read 69 = .ok (.ifCond .ne 25, 3) := by decide +kernel
theorem dX7_read_72 : decode cX7_read 72 = .ok (.aload_n 2, 1) := by decide +kernel
theorem dX7_read_73 : decode cX7_read 73 = .ok (.getfield 69, 3) := by decide +kernel
theorem dX7_read_76 : decode cX7_read 76 = .ok (.ifCond .gt 12, 3) := by decide +kernel
theorem dX7_read_79 : decode cX7_read 79 = .ok (.aload_n 0, 1) := by decide +kernel
theorem dX7_read_80 : decode cX7_read 80 = .ok (.bipush 6, 2) := by decide +kernel
theorem dX7_read_82 : decode cX7_read 82 = .ok (.invokevirtual 72, 3) := by decide +kernel
theorem dX7_read_85 : decode cX7_read 85 = .ok (.ifCond .eq 7, 3) := by decide +kernel
theorem dX7_read_88 : decode cX7_read 88 = .ok (.iconst 1, 1) := by decide +kernel
theorem dX7_read_89 : decode cX7_read 89 = .ok (.goto 4, 3) := by decide +kernel
theorem dX7_read_9 : decode cX7_read 9 = .ok (.putfield 19, 3) := by decide +kernel
theorem dX7_read_92 : decode cX7_read 92 = .ok (.iconst 0, 1) := by decide +kernel
theorem dX7_read_93 : decode cX7_read 93 = .ok (.ireturn, 1) := by decide +kernel
theorem dX7_read_94 : decode cX7_read 94 = .ok (.aload_n 0, 1) := by decide +kernel
theorem dX7_read_95 : decode cX7_read 95 = .ok (.getfield 22, 3) := by decide +kernel
theorem dX7_read_98 : decode cX7_read 98 = .ok (.iconst 3, 1) := by decide +kernel
theorem dX7_read_99 : decode cX7_read 99 = .ok (.if_icmp .eq 9, 3) := by decide +kernel
def vfX7_read : List Cond := List.cons (.code yX7_read cX7_read 4 (some .boolean)) (apW [.fieldLink RX7 15 "HookPier$Reader" "fed" "I", .methodLink RX7 51 Lib.Math.min.name, .static Lib.Math.min.name, .initialized "java/lang/Math", .code Lib.Math.min.name Lib.Math.min.code 2 (some .int), .fieldLink RX7 19 "HookPier$Reader" "end" "I", .fieldLink RX7 28 "HookPier$Reader" "behind" "I", .fieldLink RX7 42 "HookPier$Reader" "names" "I", .fieldLink RX7 45 "HookPier$Reader" "fault" "I", .fieldLink RX7 48 "HookPier$Reader" "place" "I", .methodLink RX7 57 yX6_clear, .instanceMethod yX6_clear, .selects RX6 yX6_clear yX6_clear, .initialized RX6, .methodLink RX7 62 yX7_advance, .instanceMethod yX7_advance, .selects RX7 yX7_advance yX7_advance, .initialized RX7, .methodLink RX7 72 yX7_fail, .instanceMethod yX7_fail, .selects RX7 yX7_fail yX7_fail, .methodLink RX7 65 yX7_readLine, .instanceMethod yX7_readLine, .selects RX7 yX7_readLine yX7_readLine, .fieldLink RX7 22 "HookPier$Reader" "token" "I", .fieldLink RX7 69 "HookPier$Plan" "baits" "I"] (apW wsX70 (apW wsX60 (apW vfX6_clear (apW vfX7_advance (apW vfX7_fail (vfX7_readLine)))))))
theorem ifX7_read_X7 : ∀ w ∈ wsX70, w ∈ vfX7_read := fun _ h => (List.mem_cons_of_mem _ (List.mem_append_right _ (List.mem_append_left _ h)))
theorem ifX7_read_X6 : ∀ w ∈ wsX60, w ∈ vfX7_read := fun _ h => (List.mem_cons_of_mem _ (List.mem_append_right _ (List.mem_append_right _ (List.mem_append_left _ h))))
theorem qfX7_read : Good vfX7_read := gd_cons (by decide +kernel) (gd_app (gd_dec (by decide +kernel) : Good [.fieldLink RX7 15 "HookPier$Reader" "fed" "I", .methodLink RX7 51 Lib.Math.min.name, .static Lib.Math.min.name, .initialized "java/lang/Math", .code Lib.Math.min.name Lib.Math.min.code 2 (some .int), .fieldLink RX7 19 "HookPier$Reader" "end" "I", .fieldLink RX7 28 "HookPier$Reader" "behind" "I", .fieldLink RX7 42 "HookPier$Reader" "names" "I", .fieldLink RX7 45 "HookPier$Reader" "fault" "I", .fieldLink RX7 48 "HookPier$Reader" "place" "I", .methodLink RX7 57 yX6_clear, .instanceMethod yX6_clear, .selects RX6 yX6_clear yX6_clear, .initialized RX6, .methodLink RX7 62 yX7_advance, .instanceMethod yX7_advance, .selects RX7 yX7_advance yX7_advance, .initialized RX7, .methodLink RX7 72 yX7_fail, .instanceMethod yX7_fail, .selects RX7 yX7_fail yX7_fail, .methodLink RX7 65 yX7_readLine, .instanceMethod yX7_readLine, .selects RX7 yX7_readLine yX7_readLine, .fieldLink RX7 22 "HookPier$Reader" "token" "I", .fieldLink RX7 69 "HookPier$Plan" "baits" "I"]) (gd_app qsX7 (gd_app qsX6 (gd_app qfX6_clear (gd_app qfX7_advance (gd_app qfX7_fail qfX7_readLine))))))
theorem gfX7_read_0 : GoodIn vfX7_read (wsV RX7 57 RX6 yX6_clear vfX6_clear) := goodIn_app (goodIn_r [.methodLink RX7 57 yX6_clear, .instanceMethod yX6_clear, .selects RX6 yX6_clear yX6_clear, .initialized RX6] [11, 12, 13, 14] rfl (by decide +kernel)) (goodIn_m (fun _ h => (List.mem_cons_of_mem _ (List.mem_append_right _ (List.mem_append_right _ (List.mem_append_right _ (List.mem_append_left _ h)))))) qfX6_clear)
theorem gfX7_read_1 : GoodIn vfX7_read (wsV RX7 62 RX7 yX7_advance vfX7_advance) := goodIn_app (goodIn_r [.methodLink RX7 62 yX7_advance, .instanceMethod yX7_advance, .selects RX7 yX7_advance yX7_advance, .initialized RX7] [15, 16, 17, 18] rfl (by decide +kernel)) (goodIn_m (fun _ h => (List.mem_cons_of_mem _ (List.mem_append_right _ (List.mem_append_right _ (List.mem_append_right _ (List.mem_append_right _ (List.mem_append_left _ h))))))) qfX7_advance)
theorem gfX7_read_2 : GoodIn vfX7_read (wsV RX7 72 RX7 yX7_fail vfX7_fail) := goodIn_app (goodIn_r [.methodLink RX7 72 yX7_fail, .instanceMethod yX7_fail, .selects RX7 yX7_fail yX7_fail, .initialized RX7] [19, 20, 21, 18] rfl (by decide +kernel)) (goodIn_m (fun _ h => (List.mem_cons_of_mem _ (List.mem_append_right _ (List.mem_append_right _ (List.mem_append_right _ (List.mem_append_right _ (List.mem_append_right _ (List.mem_append_left _ h)))))))) qfX7_fail)
theorem gfX7_read_3 : GoodIn vfX7_read (wsV RX7 65 RX7 yX7_readLine vfX7_readLine) := goodIn_app (goodIn_r [.methodLink RX7 65 yX7_readLine, .instanceMethod yX7_readLine, .selects RX7 yX7_readLine yX7_readLine, .initialized RX7] [22, 23, 24, 18] rfl (by decide +kernel)) (goodIn_m (fun _ h => (List.mem_cons_of_mem _ (List.mem_append_right _ (List.mem_append_right _ (List.mem_append_right _ (List.mem_append_right _ (List.mem_append_right _ (List.mem_append_right _ h)))))))) qfX7_readLine)
set_option maxHeartbeats 2000000 in
set_option maxRecDepth 100000 in
theorem kfX7_read (l : Launch) (dC : Nat → ClassId) (dI : Nat → Nat → Nat) (a0 : Nat) (k1 : Int32) (a2 : Nat) (ur : Nat → Nat) (kr : Nat → ClassId) (up : Nat → Nat) (kp : Nat → ClassId) (r_r : TX7_r) (p_p : TX6_p) (sz : Nat) (B : Nat) (out : (Int32 × TX7_r × TX6_p)) (h : f_X7_read k1 r_r p_p = some out) : Met l yX7_read vfX7_read ({ frames := 9, cells := 0, slots := 0, locals := 194 }) (PF (dC, dI) B [.ref a0, .int k1, .ref a2] sz (bX7 a0 ur kr r_r (bX6 a2 up kp p_p [])) (tX7 kr (tX6 kp ([]))) []) (va_Qi (S := Unit) (fun (r : Int32) _ => r = out.1 ∧ (0 ≤ r.toInt ∧ r.toInt ≤ 1)) (fun _ t => BC (dC, dI) (va_A (bX7 a0 ur kr r_r (bX6 a2 up kp p_p [])) sz) (bX7 a0 ur kr out.2.1 (bX6 a2 up kp out.2.2 [])) [] t) (va_A (bX7 a0 ur kr r_r (bX6 a2 up kp p_p [])) sz)) 0 0 (va_A (bX7 a0 ur kr r_r (bX6 a2 up kp p_p [])) sz) := by
  refine Met.ofW (cc := cX7_read) (maxL := 4) (ret := (some .boolean)) (by decide) rfl ?_
  intro p e s m args below meth c s₁ B0 hml hv
  obtain ⟨rfl, hsz, hP, hK, hD0, hN, hBs, hE, hX⟩ := hv
  have hBA := PF_reg hD0 hBs
  have hx := B0.exec
  have hb := B0.bytes
  have hr := B0.returns
  have hts := atoms_spec (ws := vfX7_read) B0.pre
  have hown : s.vm.findClass RX7 = some m.cls := findClass_of_methodNamed B0.named
  have hlocks := B0.notSynchronized
  subst hsz
  have hD := hD0.self (sz := s.heap.size)
  generalize hAe : va_A (bX7 a0 ur kr r_r (bX6 a2 up kp p_p [])) s.heap.size = A at hD hBA ⊢
  have hA : ∀ q : Nat, s.heap.size ≤ q → A q := fun q h => by rw [← hAe]; exact Or.inr h
  have hS : va_S A s.heap s.heap [] := va_S.rf
  have hP : va_P (dC, dI) vwCl (bX7 a0 ur kr r_r (bX6 a2 up kp p_p [])) s.heap := hP
  have hl := lv_entry ([.ref a0, .int k1, .ref a2]) (n := 4) (Nat.le_of_ble_eq_true rfl)
  rw [lg_entry_eq]
  generalize (lg_sl ([.ref a0, .int k1, .ref a2]) ++ List.replicate (4 - (lg_sl ([.ref a0, .int k1, .ref a2])).length) Slot.unset).toArray = ls at hl ⊢
  have hl : lv_has ls 4 [(0, .ref a0), (1, .int k1), (2, .ref a2)] := hl
  have hB : RB B s A := ⟨hBA, hBs⟩
  refine W_q (fun QQ hQQ => ?_)
  rw [f_X7_read] at h
  refine lv_aload_n hx hb dX7_read_0 rfl (lv_at hl 0 rfl) ?_
  refine lv_iload_n hx hb dX7_read_1 rfl (lv_at hl 1 rfl) ?_
  refine lv_aload_n hx hb dX7_read_2 rfl (lv_at hl 0 rfl) ?_
  refine va_get (D := (dC, dI)) (ci := 5) (v := .int r_r.2.1) (C := RX7) (T := TX7) (N := 12) hx hb hts ifX7_read_X7 hown hK hP 0 rfl rfl 1 (by decide) (hts (.fieldLink RX7 15 "HookPier$Reader" "fed" "I") (List.mem_of_getElem? (i := 1) rfl)) (fun _ h9 => h9) rfl dX7_read_3 ?_
  refine va_mmin hx hb (by rw [hml]; exact hl.1.symm) hown (hts (.methodLink RX7 51 Lib.Math.min.name) (List.mem_of_getElem? (i := 2) rfl)) (hts (.static Lib.Math.min.name) (List.mem_of_getElem? (i := 3) rfl)) (hts (.initialized "java/lang/Math") (List.mem_of_getElem? (i := 4) rfl)) (hts (.code Lib.Math.min.name Lib.Math.min.code 2 (some .int)) (List.mem_of_getElem? (i := 5) rfl)) (Nat.le_of_ble_eq_true rfl) (Nat.le_of_ble_eq_true rfl) (Nat.le_of_ble_eq_true rfl) (Nat.le_of_ble_eq_true rfl) dX7_read_6 ?_
  refine lv_topi (fun z6 ez6 => ?_)
  have h := nm_of h z6 ez6
  refine va_put (D := (dC, dI)) (ci := 5) (v := .int z6) (ty := .int) (C := RX7) (T := TX7) (N := 12) hx hb hts ifX7_read_X7 tyX7 tyX7_ok nmX7 hown hK hP hD hS 0 rfl rfl 2 (by decide) (hts (.fieldLink RX7 19 "HookPier$Reader" "end" "I") (List.mem_of_getElem? (i := 6) rfl)) (fun _ h9 => h9) rfl (by decide +kernel) rfl rfl (Nat.le_of_ble_eq_true rfl) dX7_read_9 (fun H locs hP hD hS => ?_)
  have hP : va_P (dC, dI) vwCl (bX7 a0 ur kr (r_r.1, r_r.2.1, z6, r_r.2.2.2) (bX6 a2 up kp p_p [])) H := hP
  have hD : va_D A (bX7 a0 ur kr (r_r.1, r_r.2.1, z6, r_r.2.2.2) (bX6 a2 up kp p_p [])) := hD
  refine lv_aload_n hx hb dX7_read_12 rfl (lv_at hl 0 rfl) ?_
  refine lv_iconst (v := 0) hx hb dX7_read_13 (by decide) ?_
  refine va_put (D := (dC, dI)) (ci := 5) (v := .int 0) (ty := .int) (C := RX7) (T := TX7) (N := 12) hx hb hts ifX7_read_X7 tyX7 tyX7_ok nmX7 hown hK hP hD hS 0 rfl rfl 1 (by decide) (hts (.fieldLink RX7 15 "HookPier$Reader" "fed" "I") (List.mem_of_getElem? (i := 1) rfl)) (fun _ h9 => h9) rfl (by decide +kernel) rfl rfl (Nat.le_of_ble_eq_true rfl) dX7_read_14 (fun H locs hP hD hS => ?_)
  have hP : va_P (dC, dI) vwCl (bX7 a0 ur kr (r_r.1, (0 : Int32), z6, r_r.2.2.2) (bX6 a2 up kp p_p [])) H := hP
  have hD : va_D A (bX7 a0 ur kr (r_r.1, (0 : Int32), z6, r_r.2.2.2) (bX6 a2 up kp p_p [])) := hD
  refine lv_aload_n hx hb dX7_read_17 rfl (lv_at hl 0 rfl) ?_
  refine lv_iconst (v := 0) hx hb dX7_read_18 (by decide) ?_
  refine va_put (D := (dC, dI)) (ci := 5) (v := .int 0) (ty := .int) (C := RX7) (T := TX7) (N := 12) hx hb hts ifX7_read_X7 tyX7 tyX7_ok nmX7 hown hK hP hD hS 0 rfl rfl 5 (by decide) (hts (.fieldLink RX7 28 "HookPier$Reader" "behind" "I") (List.mem_of_getElem? (i := 7) rfl)) (fun _ h9 => h9) rfl (by decide +kernel) rfl rfl (Nat.le_of_ble_eq_true rfl) dX7_read_19 (fun H locs hP hD hS => ?_)
  have hP : va_P (dC, dI) vwCl (bX7 a0 ur kr (r_r.1, (0 : Int32), z6, r_r.2.2.2.1, r_r.2.2.2.2.1, (0 : Int32), r_r.2.2.2.2.2.2) (bX6 a2 up kp p_p [])) H := hP
  have hD : va_D A (bX7 a0 ur kr (r_r.1, (0 : Int32), z6, r_r.2.2.2.1, r_r.2.2.2.2.1, (0 : Int32), r_r.2.2.2.2.2.2) (bX6 a2 up kp p_p [])) := hD
  refine lv_aload_n hx hb dX7_read_22 rfl (lv_at hl 0 rfl) ?_
  refine lv_iconst (v := 0) hx hb dX7_read_23 (by decide) ?_
  refine va_put (D := (dC, dI)) (ci := 5) (v := .int 0) (ty := .int) (C := RX7) (T := TX7) (N := 12) hx hb hts ifX7_read_X7 tyX7 tyX7_ok nmX7 hown hK hP hD hS 0 rfl rfl 9 (by decide) (hts (.fieldLink RX7 42 "HookPier$Reader" "names" "I") (List.mem_of_getElem? (i := 8) rfl)) (fun _ h9 => h9) rfl (by decide +kernel) rfl rfl (Nat.le_of_ble_eq_true rfl) dX7_read_24 (fun H locs hP hD hS => ?_)
  have hP : va_P (dC, dI) vwCl (bX7 a0 ur kr (r_r.1, (0 : Int32), z6, r_r.2.2.2.1, r_r.2.2.2.2.1, (0 : Int32), r_r.2.2.2.2.2.2.1, r_r.2.2.2.2.2.2.2.1, r_r.2.2.2.2.2.2.2.2.1, (0 : Int32), r_r.2.2.2.2.2.2.2.2.2.2) (bX6 a2 up kp p_p [])) H := hP
  have hD : va_D A (bX7 a0 ur kr (r_r.1, (0 : Int32), z6, r_r.2.2.2.1, r_r.2.2.2.2.1, (0 : Int32), r_r.2.2.2.2.2.2.1, r_r.2.2.2.2.2.2.2.1, r_r.2.2.2.2.2.2.2.2.1, (0 : Int32), r_r.2.2.2.2.2.2.2.2.2.2) (bX6 a2 up kp p_p [])) := hD
  refine lv_aload_n hx hb dX7_read_27 rfl (lv_at hl 0 rfl) ?_
  refine lv_iconst (v := 0) hx hb dX7_read_28 (by decide) ?_
  refine va_put (D := (dC, dI)) (ci := 5) (v := .int 0) (ty := .int) (C := RX7) (T := TX7) (N := 12) hx hb hts ifX7_read_X7 tyX7 tyX7_ok nmX7 hown hK hP hD hS 0 rfl rfl 10 (by decide) (hts (.fieldLink RX7 45 "HookPier$Reader" "fault" "I") (List.mem_of_getElem? (i := 9) rfl)) (fun _ h9 => h9) rfl (by decide +kernel) rfl rfl (Nat.le_of_ble_eq_true rfl) dX7_read_29 (fun H locs hP hD hS => ?_)
  have hP : va_P (dC, dI) vwCl (bX7 a0 ur kr (r_r.1, (0 : Int32), z6, r_r.2.2.2.1, r_r.2.2.2.2.1, (0 : Int32), r_r.2.2.2.2.2.2.1, r_r.2.2.2.2.2.2.2.1, r_r.2.2.2.2.2.2.2.2.1, (0 : Int32), (0 : Int32), r_r.2.2.2.2.2.2.2.2.2.2.2) (bX6 a2 up kp p_p [])) H := hP
  have hD : va_D A (bX7 a0 ur kr (r_r.1, (0 : Int32), z6, r_r.2.2.2.1, r_r.2.2.2.2.1, (0 : Int32), r_r.2.2.2.2.2.2.1, r_r.2.2.2.2.2.2.2.1, r_r.2.2.2.2.2.2.2.2.1, (0 : Int32), (0 : Int32), r_r.2.2.2.2.2.2.2.2.2.2.2) (bX6 a2 up kp p_p [])) := hD
  refine lv_aload_n hx hb dX7_read_32 rfl (lv_at hl 0 rfl) ?_
  refine lv_iconst (v := (-1)) hx hb dX7_read_33 (by decide) ?_
  refine va_put (D := (dC, dI)) (ci := 5) (v := .int (-1)) (ty := .int) (C := RX7) (T := TX7) (N := 12) hx hb hts ifX7_read_X7 tyX7 tyX7_ok nmX7 hown hK hP hD hS 0 rfl rfl 11 (by decide) (hts (.fieldLink RX7 48 "HookPier$Reader" "place" "I") (List.mem_of_getElem? (i := 10) rfl)) (fun _ h9 => h9) rfl (by decide +kernel) rfl rfl (Nat.le_of_ble_eq_true rfl) dX7_read_34 (fun H locs hP hD hS => ?_)
  have hP : va_P (dC, dI) vwCl (bX7 a0 ur kr (r_r.1, (0 : Int32), z6, r_r.2.2.2.1, r_r.2.2.2.2.1, (0 : Int32), r_r.2.2.2.2.2.2.1, r_r.2.2.2.2.2.2.2.1, r_r.2.2.2.2.2.2.2.2.1, (0 : Int32), (0 : Int32), (-1 : Int32)) (bX6 a2 up kp p_p [])) H := hP
  have hD : va_D A (bX7 a0 ur kr (r_r.1, (0 : Int32), z6, r_r.2.2.2.1, r_r.2.2.2.2.1, (0 : Int32), r_r.2.2.2.2.2.2.1, r_r.2.2.2.2.2.2.2.1, r_r.2.2.2.2.2.2.2.2.1, (0 : Int32), (0 : Int32), (-1 : Int32)) (bX6 a2 up kp p_p [])) := hD
  refine lv_aload_n hx hb dX7_read_37 rfl (lv_at hl 2 rfl) ?_
  obtain ⟨o38, eo38⟩ : ∃ o, o = f_X6_clear p_p := ⟨_, rfl⟩
  have h := nm_of h o38 eo38
  refine cl_v (wc := (bX6 a2 up kp p_p [])) (wr := (bX7 a0 ur kr (r_r.1, (0 : Int32), z6, r_r.2.2.2.1, r_r.2.2.2.2.1, (0 : Int32), r_r.2.2.2.2.2.2.1, r_r.2.2.2.2.2.2.2.1, r_r.2.2.2.2.2.2.2.2.1, (0 : Int32), (0 : Int32), (-1 : Int32)) [])) (va_runV (As := []) (rest := []) ⟨hx, hb, hml, hown, hts⟩ (kfX6_clear l dC dI a2 up kp p_p H.size o38 eo38.symm) (cwV 0 hts gfX7_read_0 rfl rfl rfl (by decide +kernel) ⟨(Nat.le_of_ble_eq_true rfl), (Nat.le_of_ble_eq_true rfl)⟩) (PV (hP.sub (ws' := (bX6 a2 up kp p_p [])) [4, 5, 6, 7, 8, 9, 10, 11, 12, 13] rfl) (hK.sub (tys' := (tX6 kp ([]))) [3, 4, 5, 6, 7, 8, 9, 10, 11] rfl) (hD.sub (ws' := (bX6 a2 up kp p_p [])) [4, 5, 6, 7, 8, 9, 10, 11, 12, 13] (by decide) rfl) hN 0 rfl rfl) rfl rfl hl.1 rfl (lv_room (Nat.le_of_ble_eq_true rfl)) dX7_read_38 ⟨(Nat.le_of_ble_eq_true rfl), (Nat.le_of_ble_eq_true rfl)⟩) hP hD hK hS hA [4, 5, 6, 7, 8, 9, 10, 11, 12, 13] [0, 1, 2, 3] rfl rfl (by decide) (by decide) (fun _ H locs hw hP hD _ hS => ?_)
  have hP : va_P (dC, dI) vwCl (bX7 a0 ur kr (r_r.1, (0 : Int32), z6, r_r.2.2.2.1, r_r.2.2.2.2.1, (0 : Int32), r_r.2.2.2.2.2.2.1, r_r.2.2.2.2.2.2.2.1, r_r.2.2.2.2.2.2.2.2.1, (0 : Int32), (0 : Int32), (-1 : Int32)) (bX6 a2 up kp o38 [])) H := hP
  have hD : va_D A (bX7 a0 ur kr (r_r.1, (0 : Int32), z6, r_r.2.2.2.1, r_r.2.2.2.2.1, (0 : Int32), r_r.2.2.2.2.2.2.1, r_r.2.2.2.2.2.2.2.1, r_r.2.2.2.2.2.2.2.2.1, (0 : Int32), (0 : Int32), (-1 : Int32)) (bX6 a2 up kp o38 [])) := hD
  refine lv_aload_n hx hb dX7_read_41 rfl (lv_at hl 0 rfl) ?_
  obtain ⟨o42, eo42, h⟩ := bd_of h
  refine cl_v (wc := (bX7 a0 ur kr (r_r.1, (0 : Int32), z6, r_r.2.2.2.1, r_r.2.2.2.2.1, (0 : Int32), r_r.2.2.2.2.2.2.1, r_r.2.2.2.2.2.2.2.1, r_r.2.2.2.2.2.2.2.2.1, (0 : Int32), (0 : Int32), (-1 : Int32)) [])) (wr := (bX6 a2 up kp o38 [])) (va_runV (As := []) (rest := []) ⟨hx, hb, hml, hown, hts⟩ (kfX7_advance l dC dI a0 ur kr (r_r.1, (0 : Int32), z6, r_r.2.2.2.1, r_r.2.2.2.2.1, (0 : Int32), r_r.2.2.2.2.2.2.1, r_r.2.2.2.2.2.2.2.1, r_r.2.2.2.2.2.2.2.2.1, (0 : Int32), (0 : Int32), (-1 : Int32)) H.size o42 eo42) (cwV 0 hts gfX7_read_1 rfl rfl rfl (by decide +kernel) ⟨(Nat.le_of_ble_eq_true rfl), (Nat.le_of_ble_eq_true rfl)⟩) (PV (hP.sub (ws' := (bX7 a0 ur kr (r_r.1, (0 : Int32), z6, r_r.2.2.2.1, r_r.2.2.2.2.1, (0 : Int32), r_r.2.2.2.2.2.2.1, r_r.2.2.2.2.2.2.2.1, r_r.2.2.2.2.2.2.2.2.1, (0 : Int32), (0 : Int32), (-1 : Int32)) [])) [0, 1, 2, 3] rfl) (hK.sub (tys' := (tX7 kr ([]))) [0, 1, 2] rfl) (hD.sub (ws' := (bX7 a0 ur kr (r_r.1, (0 : Int32), z6, r_r.2.2.2.1, r_r.2.2.2.2.1, (0 : Int32), r_r.2.2.2.2.2.2.1, r_r.2.2.2.2.2.2.2.1, r_r.2.2.2.2.2.2.2.2.1, (0 : Int32), (0 : Int32), (-1 : Int32)) [])) [0, 1, 2, 3] (by decide) rfl) hN 0 rfl rfl) rfl rfl hl.1 rfl (lv_room (Nat.le_of_ble_eq_true rfl)) dX7_read_42 ⟨(Nat.le_of_ble_eq_true rfl), (Nat.le_of_ble_eq_true rfl)⟩) hP hD hK hS hA [0, 1, 2, 3] [4, 5, 6, 7, 8, 9, 10, 11, 12, 13] rfl rfl (by decide) (by decide) (fun _ H locs hw hP hD _ hS => ?_)
  have hP : va_P (dC, dI) vwCl (bX6 a2 up kp o38 (bX7 a0 ur kr o42 [])) H := hP
  have hD : va_D A (bX6 a2 up kp o38 (bX7 a0 ur kr o42 [])) := hD
  refine lv_iconst (v := 0) hx hb dX7_read_45 (by decide) ?_
  refine lv_istore_n (lv' := [(3, .int 0), (0, .ref a0), (1, .int k1), (2, .ref a2)]) hx hb dX7_read_46 rfl hl (by decide) rfl (fun ls hl => ?_)
  have L47 : ∀ (n47 : Nat) (v47_l3 : Int32) (v47_p_p : TX6_p) (v47_r_r : TX7_r) (H : Heap) (locs : List Loc) (ls : Array Slot), f_X7_read_L47 n47 v47_l3 v47_p_p v47_r_r = some out → va_P (dC, dI) vwCl (bX6 a2 up kp v47_p_p (bX7 a0 ur kr v47_r_r [])) H → va_D A (bX6 a2 up kp v47_p_p (bX7 a0 ur kr v47_r_r [])) → va_S A s.heap H locs → lv_has ls 4 [(3, .int v47_l3), (0, .ref a0), (2, .ref a2)] → W p l e (headSpec vfX7_read { frames := 9, cells := 0, slots := 0, locals := 194 }).room s m ([.ref a0, .int k1, .ref a2]).toArray below meth c H locs 0 0 QQ (F0 m 47 ls []) := by
    intro n47
    induction n47 with
    | zero =>
      intro v47_l3 v47_p_p v47_r_r H locs ls h  _ _ _ _
      rw [f_X7_read_L47] at h
      cases h
    | succ n47 ih47 =>
      intro v47_l3 v47_p_p v47_r_r H locs ls h  hP hD hS hl
      rw [f_X7_read_L47] at h
      refine lv_iload_n hx hb dX7_read_47 rfl (lv_at hl 0 rfl) ?_
      refine lv_aload_n hx hb dX7_read_48 rfl (lv_at hl 1 rfl) ?_
      refine va_get (D := (dC, dI)) (ci := 5) (v := .int v47_r_r.2.2.1) (C := RX7) (T := TX7) (N := 12) hx hb hts ifX7_read_X7 hown hK hP 10 rfl rfl 2 (by decide) (hts (.fieldLink RX7 19 "HookPier$Reader" "end" "I") (List.mem_of_getElem? (i := 6) rfl)) (fun _ h9 => h9) rfl dX7_read_49 ?_
      refine lv_icmp_gt (tgt := 118) hx hb dX7_read_52 (by decide) (fun c52 => ?_) (fun c52 => ?_)
      · have h := (if_pos c52).symm.trans h
        refine lv_aload_n hx hb dX7_read_118 rfl (lv_at hl 1 rfl) ?_
        refine lv_iconst (v := 1) hx hb dX7_read_119 (by decide) ?_
        obtain ⟨o120, eo120⟩ : ∃ o, o = f_X7_fail (1 : Int32) v47_r_r := ⟨_, rfl⟩
        have h := nm_of h o120 eo120
        refine cl_i (wc := (bX7 a0 ur kr v47_r_r [])) (wr := (bX6 a2 up kp v47_p_p [])) (va_runV (As := [.int 1]) (rest := []) ⟨hx, hb, hml, hown, hts⟩ (kfX7_fail l dC dI a0 (1 : Int32) ur kr v47_r_r H.size o120 eo120.symm) (cwV 1 hts gfX7_read_2 rfl rfl rfl (by decide +kernel) ⟨(Nat.le_of_ble_eq_true rfl), (Nat.le_of_ble_eq_true rfl)⟩) (PV (hP.sub (ws' := (bX7 a0 ur kr v47_r_r [])) [10, 11, 12, 13] rfl) (hK.sub (tys' := (tX7 kr ([]))) [0, 1, 2] rfl) (hD.sub (ws' := (bX7 a0 ur kr v47_r_r [])) [10, 11, 12, 13] (by decide) rfl) hN 0 rfl rfl) rfl rfl hl.1 rfl (lv_room (Nat.le_of_ble_eq_true rfl)) dX7_read_120 ⟨(Nat.le_of_ble_eq_true rfl), (Nat.le_of_ble_eq_true rfl)⟩) hP hD hK hS hA [10, 11, 12, 13] [0, 1, 2, 3, 4, 5, 6, 7, 8, 9] rfl rfl (by decide) (by decide) (fun r120 _ H locs hw hP hD _ hS => ?_)
        obtain ⟨hw, br120⟩ := hw
        obtain rfl := hw
        have hP : va_P (dC, dI) vwCl (bX6 a2 up kp v47_p_p (bX7 a0 ur kr o120 [])) H := hP
        have hD : va_D A (bX6 a2 up kp v47_p_p (bX7 a0 ur kr o120 [])) := hD
        obtain rfl := Option.some.inj h
        have hP9 := hP.sub (ws' := (bX7 a0 ur kr o120 (bX6 a2 up kp v47_p_p []))) [10, 11, 12, 13, 0, 1, 2, 3, 4, 5, 6, 7, 8, 9] rfl
        have hD9 := hD.sub (ws' := (bX7 a0 ur kr o120 (bX6 a2 up kp v47_p_p []))) [10, 11, 12, 13, 0, 1, 2, 3, 4, 5, 6, 7, 8, 9] (by decide) rfl
        have hK9 := hK.sub (tys' := []) [] rfl
        rw [hQQ]
        exact W.zret (v := (0 : Int32)) hx hb hr rfl (fun t ht hW => ⟨⟨(0 : Int32), (), rfl, ⟨rfl, (by decide)⟩, by rw [ht]; exact hP9, va_K.moved hW.alike hK9, hD9⟩, hS.F ht⟩) hS.2.2 dX7_read_123
      · have h := (if_neg c52).symm.trans h
        refine lv_aload_n hx hb dX7_read_55 rfl (lv_at hl 1 rfl) ?_
        refine lv_aload_n hx hb dX7_read_56 rfl (lv_at hl 2 rfl) ?_
        obtain ⟨o57, eo57, h⟩ := bd_of h
        refine cl_i (wc := (bX7 a0 ur kr v47_r_r (bX6 a2 up kp v47_p_p []))) (wr := []) (va_runV (As := [.ref a2]) (rest := []) ⟨hx, hb, hml, hown, hts⟩ (kfX7_readLine l dC dI a0 a2 ur kr up kp v47_r_r v47_p_p H.size B o57 eo57) (cwV 1 hts gfX7_read_3 rfl rfl rfl (by decide +kernel) ⟨(Nat.le_of_ble_eq_true rfl), (Nat.le_of_ble_eq_true rfl)⟩) (PVF (hP.sub (ws' := (bX7 a0 ur kr v47_r_r (bX6 a2 up kp v47_p_p []))) [10, 11, 12, 13, 0, 1, 2, 3, 4, 5, 6, 7, 8, 9] rfl) (hK.sub (tys' := (tX7 kr (tX6 kp ([])))) [0, 1, 2, 3, 4, 5, 6, 7, 8, 9, 10, 11] rfl) (hD.sub (ws' := (bX7 a0 ur kr v47_r_r (bX6 a2 up kp v47_p_p []))) [10, 11, 12, 13, 0, 1, 2, 3, 4, 5, 6, 7, 8, 9] (by decide) rfl) hN hS hB hE S1n 0 rfl rfl) rfl rfl hl.1 rfl (lv_room (Nat.le_of_ble_eq_true rfl)) dX7_read_57 ⟨(Nat.le_of_ble_eq_true rfl), (Nat.le_of_ble_eq_true rfl)⟩) hP hD hK hS hA [10, 11, 12, 13, 0, 1, 2, 3, 4, 5, 6, 7, 8, 9] [] rfl rfl (by decide) (by decide) (fun r57 _ H locs hw hP hD _ hS => ?_)
        obtain ⟨hw, br57⟩ := hw
        obtain rfl := hw
        have hP : va_P (dC, dI) vwCl (bX7 a0 ur kr o57.2.1 (bX6 a2 up kp o57.2.2 [])) H := hP
        have hD : va_D A (bX7 a0 ur kr o57.2.1 (bX6 a2 up kp o57.2.2 [])) := hD
        refine lv_if_ne (tgt := 65) hx hb dX7_read_60 (by decide) (fun c60 => ?_) (fun c60 => ?_)
        · have h := (if_neg c60).symm.trans h
          refine lv_aload_n hx hb dX7_read_65 rfl (lv_at hl 1 rfl) ?_
          refine va_get (D := (dC, dI)) (ci := 5) (v := .int o57.2.1.2.2.2.1) (C := RX7) (T := TX7) (N := 12) hx hb hts ifX7_read_X7 hown hK hP 0 rfl rfl 3 (by decide) (hts (.fieldLink RX7 22 "HookPier$Reader" "token" "I") (List.mem_of_getElem? (i := 25) rfl)) (fun _ h9 => h9) rfl dX7_read_66 ?_
          refine lv_if_ne (tgt := 94) hx hb dX7_read_69 (by decide) (fun c69 => ?_) (fun c69 => ?_)
          · have h := (if_neg c69).symm.trans h
            refine lv_aload_n hx hb dX7_read_94 rfl (lv_at hl 1 rfl) ?_
            refine va_get (D := (dC, dI)) (ci := 5) (v := .int o57.2.1.2.2.2.1) (C := RX7) (T := TX7) (N := 12) hx hb hts ifX7_read_X7 hown hK hP 0 rfl rfl 3 (by decide) (hts (.fieldLink RX7 22 "HookPier$Reader" "token" "I") (List.mem_of_getElem? (i := 25) rfl)) (fun _ h9 => h9) rfl dX7_read_95 ?_
            refine lv_iconst (v := 3) hx hb dX7_read_98 (by decide) ?_
            refine lv_icmp_eq (tgt := 108) hx hb dX7_read_99 (by decide) (fun c99 => ?_) (fun c99 => ?_)
            · have h := (if_pos c99).symm.trans h
              refine lv_aload_n hx hb dX7_read_108 rfl (lv_at hl 1 rfl) ?_
              obtain ⟨o109, eo109, h⟩ := bd_of h
              refine cl_v (wc := (bX7 a0 ur kr o57.2.1 [])) (wr := (bX6 a2 up kp o57.2.2 [])) (va_runV (As := []) (rest := []) ⟨hx, hb, hml, hown, hts⟩ (kfX7_advance l dC dI a0 ur kr o57.2.1 H.size o109 eo109) (cwV 0 hts gfX7_read_1 rfl rfl rfl (by decide +kernel) ⟨(Nat.le_of_ble_eq_true rfl), (Nat.le_of_ble_eq_true rfl)⟩) (PV (hP.sub (ws' := (bX7 a0 ur kr o57.2.1 [])) [0, 1, 2, 3] rfl) (hK.sub (tys' := (tX7 kr ([]))) [0, 1, 2] rfl) (hD.sub (ws' := (bX7 a0 ur kr o57.2.1 [])) [0, 1, 2, 3] (by decide) rfl) hN 0 rfl rfl) rfl rfl hl.1 rfl (lv_room (Nat.le_of_ble_eq_true rfl)) dX7_read_109 ⟨(Nat.le_of_ble_eq_true rfl), (Nat.le_of_ble_eq_true rfl)⟩) hP hD hK hS hA [0, 1, 2, 3] [4, 5, 6, 7, 8, 9, 10, 11, 12, 13] rfl rfl (by decide) (by decide) (fun _ H locs hw hP hD _ hS => ?_)
              have hP : va_P (dC, dI) vwCl (bX6 a2 up kp o57.2.2 (bX7 a0 ur kr o109 [])) H := hP
              have hD : va_D A (bX6 a2 up kp o57.2.2 (bX7 a0 ur kr o109 [])) := hD
              refine lv_iinc (v := (v47_l3 + (1 : Int32))) (lv' := [(3, .int (v47_l3 + (1 : Int32))), (0, .ref a0), (2, .ref a2)]) hx hb dX7_read_112 hl (k := 0) rfl rfl (by decide) rfl (fun ls hl => ?_)
              refine lv_goto (tgt := 47) hx hb dX7_read_115 (by decide) ?_
              exact ih47 (v47_l3 + (1 : Int32)) o57.2.2 o109 H _ ls h  hP hD hS (lv_sub hl [0, 1, 2] rfl)
            · have h := (if_neg c99).symm.trans h
              refine lv_aload_n hx hb dX7_read_102 rfl (lv_at hl 1 rfl) ?_
              refine lv_iconst (v := 1) hx hb dX7_read_103 (by decide) ?_
              obtain ⟨o104, eo104⟩ : ∃ o, o = f_X7_fail (1 : Int32) o57.2.1 := ⟨_, rfl⟩
              have h := nm_of h o104 eo104
              refine cl_i (wc := (bX7 a0 ur kr o57.2.1 [])) (wr := (bX6 a2 up kp o57.2.2 [])) (va_runV (As := [.int 1]) (rest := []) ⟨hx, hb, hml, hown, hts⟩ (kfX7_fail l dC dI a0 (1 : Int32) ur kr o57.2.1 H.size o104 eo104.symm) (cwV 1 hts gfX7_read_2 rfl rfl rfl (by decide +kernel) ⟨(Nat.le_of_ble_eq_true rfl), (Nat.le_of_ble_eq_true rfl)⟩) (PV (hP.sub (ws' := (bX7 a0 ur kr o57.2.1 [])) [0, 1, 2, 3] rfl) (hK.sub (tys' := (tX7 kr ([]))) [0, 1, 2] rfl) (hD.sub (ws' := (bX7 a0 ur kr o57.2.1 [])) [0, 1, 2, 3] (by decide) rfl) hN 0 rfl rfl) rfl rfl hl.1 rfl (lv_room (Nat.le_of_ble_eq_true rfl)) dX7_read_104 ⟨(Nat.le_of_ble_eq_true rfl), (Nat.le_of_ble_eq_true rfl)⟩) hP hD hK hS hA [0, 1, 2, 3] [4, 5, 6, 7, 8, 9, 10, 11, 12, 13] rfl rfl (by decide) (by decide) (fun r104 _ H locs hw hP hD _ hS => ?_)
              obtain ⟨hw, br104⟩ := hw
              obtain rfl := hw
              have hP : va_P (dC, dI) vwCl (bX6 a2 up kp o57.2.2 (bX7 a0 ur kr o104 [])) H := hP
              have hD : va_D A (bX6 a2 up kp o57.2.2 (bX7 a0 ur kr o104 [])) := hD
              obtain rfl := Option.some.inj h
              have hP9 := hP.sub (ws' := (bX7 a0 ur kr o104 (bX6 a2 up kp o57.2.2 []))) [10, 11, 12, 13, 0, 1, 2, 3, 4, 5, 6, 7, 8, 9] rfl
              have hD9 := hD.sub (ws' := (bX7 a0 ur kr o104 (bX6 a2 up kp o57.2.2 []))) [10, 11, 12, 13, 0, 1, 2, 3, 4, 5, 6, 7, 8, 9] (by decide) rfl
              have hK9 := hK.sub (tys' := []) [] rfl
              rw [hQQ]
              exact W.zret (v := (0 : Int32)) hx hb hr rfl (fun t ht hW => ⟨⟨(0 : Int32), (), rfl, ⟨rfl, (by decide)⟩, by rw [ht]; exact hP9, va_K.moved hW.alike hK9, hD9⟩, hS.F ht⟩) hS.2.2 dX7_read_107
          · have h := (if_pos c69).symm.trans h
            refine lv_aload_n hx hb dX7_read_72 rfl (lv_at hl 2 rfl) ?_
            refine va_get (D := (dC, dI)) (ci := 4) (v := .int o57.2.2.2.2.2.2.1) (C := RX6) (T := TX6) (N := 18) hx hb hts ifX7_read_X6 hown hK hP 4 rfl rfl 4 (by decide) (hts (.fieldLink RX7 69 "HookPier$Plan" "baits" "I") (List.mem_of_getElem? (i := 26) rfl)) (fun _ h9 => h9) rfl dX7_read_73 ?_
            refine lv_if_gt (tgt := 88) hx hb dX7_read_76 (by decide) (fun c76 => ?_) (fun c76 => ?_)
            · have h := (if_pos c76).symm.trans h
              refine lv_iconst (v := 1) hx hb dX7_read_88 (by decide) ?_
              refine lv_goto (tgt := 93) hx hb dX7_read_89 (by decide) ?_
              obtain rfl := Option.some.inj h
              have hP9 := hP.sub (ws' := (bX7 a0 ur kr o57.2.1 (bX6 a2 up kp o57.2.2 []))) [0, 1, 2, 3, 4, 5, 6, 7, 8, 9, 10, 11, 12, 13] rfl
              have hD9 := hD.sub (ws' := (bX7 a0 ur kr o57.2.1 (bX6 a2 up kp o57.2.2 []))) [0, 1, 2, 3, 4, 5, 6, 7, 8, 9, 10, 11, 12, 13] (by decide) rfl
              have hK9 := hK.sub (tys' := []) [] rfl
              rw [hQQ]
              exact W.zret (v := (1 : Int32)) hx hb hr rfl (fun t ht hW => ⟨⟨(1 : Int32), (), rfl, ⟨rfl, (by decide)⟩, by rw [ht]; exact hP9, va_K.moved hW.alike hK9, hD9⟩, hS.F ht⟩) hS.2.2 dX7_read_93
            · have h := (if_neg c76).symm.trans h
              refine lv_aload_n hx hb dX7_read_79 rfl (lv_at hl 1 rfl) ?_
              refine lv_bipush (v := 6) hx hb dX7_read_80 (by decide) ?_
              obtain ⟨o82, eo82⟩ : ∃ o, o = f_X7_fail (6 : Int32) o57.2.1 := ⟨_, rfl⟩
              have h := nm_of h o82 eo82
              refine cl_i (wc := (bX7 a0 ur kr o57.2.1 [])) (wr := (bX6 a2 up kp o57.2.2 [])) (va_runV (As := [.int 6]) (rest := []) ⟨hx, hb, hml, hown, hts⟩ (kfX7_fail l dC dI a0 (6 : Int32) ur kr o57.2.1 H.size o82 eo82.symm) (cwV 1 hts gfX7_read_2 rfl rfl rfl (by decide +kernel) ⟨(Nat.le_of_ble_eq_true rfl), (Nat.le_of_ble_eq_true rfl)⟩) (PV (hP.sub (ws' := (bX7 a0 ur kr o57.2.1 [])) [0, 1, 2, 3] rfl) (hK.sub (tys' := (tX7 kr ([]))) [0, 1, 2] rfl) (hD.sub (ws' := (bX7 a0 ur kr o57.2.1 [])) [0, 1, 2, 3] (by decide) rfl) hN 0 rfl rfl) rfl rfl hl.1 rfl (lv_room (Nat.le_of_ble_eq_true rfl)) dX7_read_82 ⟨(Nat.le_of_ble_eq_true rfl), (Nat.le_of_ble_eq_true rfl)⟩) hP hD hK hS hA [0, 1, 2, 3] [4, 5, 6, 7, 8, 9, 10, 11, 12, 13] rfl rfl (by decide) (by decide) (fun r82 _ H locs hw hP hD _ hS => ?_)
              obtain ⟨hw, br82⟩ := hw
              obtain rfl := hw
              have hP : va_P (dC, dI) vwCl (bX6 a2 up kp o57.2.2 (bX7 a0 ur kr o82 [])) H := hP
              have hD : va_D A (bX6 a2 up kp o57.2.2 (bX7 a0 ur kr o82 [])) := hD
              refine lv_if_eq (tgt := 92) hx hb dX7_read_85 (by decide) (fun _ => ?_) (fun c85 => absurd c85 (by decide))
              refine lv_iconst (v := 0) hx hb dX7_read_92 (by decide) ?_
              obtain rfl := Option.some.inj h
              have hP9 := hP.sub (ws' := (bX7 a0 ur kr o82 (bX6 a2 up kp o57.2.2 []))) [10, 11, 12, 13, 0, 1, 2, 3, 4, 5, 6, 7, 8, 9] rfl
              have hD9 := hD.sub (ws' := (bX7 a0 ur kr o82 (bX6 a2 up kp o57.2.2 []))) [10, 11, 12, 13, 0, 1, 2, 3, 4, 5, 6, 7, 8, 9] (by decide) rfl
              have hK9 := hK.sub (tys' := []) [] rfl
              rw [hQQ]
              exact W.zret (v := (0 : Int32)) hx hb hr rfl (fun t ht hW => ⟨⟨(0 : Int32), (), rfl, ⟨rfl, (by decide)⟩, by rw [ht]; exact hP9, va_K.moved hW.alike hK9, hD9⟩, hS.F ht⟩) hS.2.2 dX7_read_93
        · have h := (if_pos c60).symm.trans h
          refine lv_iconst (v := 0) hx hb dX7_read_63 (by decide) ?_
          obtain rfl := Option.some.inj h
          have hP9 := hP.sub (ws' := (bX7 a0 ur kr o57.2.1 (bX6 a2 up kp o57.2.2 []))) [0, 1, 2, 3, 4, 5, 6, 7, 8, 9, 10, 11, 12, 13] rfl
          have hD9 := hD.sub (ws' := (bX7 a0 ur kr o57.2.1 (bX6 a2 up kp o57.2.2 []))) [0, 1, 2, 3, 4, 5, 6, 7, 8, 9, 10, 11, 12, 13] (by decide) rfl
          have hK9 := hK.sub (tys' := []) [] rfl
          rw [hQQ]
          exact W.zret (v := (0 : Int32)) hx hb hr rfl (fun t ht hW => ⟨⟨(0 : Int32), (), rfl, ⟨rfl, (by decide)⟩, by rw [ht]; exact hP9, va_K.moved hW.alike hK9, hD9⟩, hS.F ht⟩) hS.2.2 dX7_read_64
  exact L47 FU (0 : Int32) o38 o42 H _ ls h  hP hD hS (lv_sub hl [0, 1, 3] rfl)
theorem dX7_put_0 : decode cX7_put 0 = .ok (.bipush 24, 2) := by decide +kernel
theorem dX7_put_11 : decode cX7_put 11 = .ok (.aload_n 0, 1) := by decide +kernel
theorem dX7_put_12 : decode cX7_put 12 = .ok (.getfield 9, 3) := by decide +kernel
theorem dX7_put_15 : decode cX7_put 15 = .ok (.arraylength, 1) := by decide +kernel
theorem dX7_put_16 : decode cX7_put 16 = .ok (.if_icmp .ge 32, 3) := by decide +kernel
theorem dX7_put_19 : decode cX7_put 19 = .ok (.aload_n 0, 1) := by decide +kernel
theorem dX7_put_2 : decode cX7_put 2 = .ok (.istore_n 2, 1) := by decide +kernel
theorem dX7_put_20 : decode cX7_put 20 = .ok (.getfield 9, 3) := by decide +kernel
theorem dX7_put_23 : decode cX7_put 23 = .ok (.aload_n 0, 1) := by decide +kernel
theorem dX7_put_24 : decode cX7_put 24 = .ok (.getfield 15, 3) := by decide +kernel
theorem dX7_put_27 : decode cX7_put 27 = .ok (.iload_n 1, 1) := by decide +kernel
theorem dX7_put_28 : decode cX7_put 28 = .ok (.iload_n 2, 1) := by decide +kernel
theorem dX7_put_29 : decode cX7_put 29 = .ok (.ishr, 1) := by decide +kernel
theorem dX7_put_3 : decode cX7_put 3 = .ok (.iload_n 2, 1) := by decide +kernel
theorem dX7_put_30 : decode cX7_put 30 = .ok (.i2b, 1) := by decide +kernel
theorem dX7_put_31 : decode cX7_put 31 = .ok (.bastore, 1) := by decide +kernel
theorem dX7_put_32 : decode cX7_put 32 = .ok (.aload_n 0, 1) := by decide +kernel
theorem dX7_put_33 : decode cX7_put 33 = .ok (.dup, 1) := by decide +kernel
theorem dX7_put_34 : decode cX7_put 34 = .ok (.getfield 15, 3) := by decide +kernel
theorem dX7_put_37 : decode cX7_put 37 = .ok (.iconst 1, 1) := by decide +kernel
theorem dX7_put_38 : decode cX7_put 38 = .ok (.iadd, 1) := by decide +kernel
theorem dX7_put_39 : decode cX7_put 39 = .ok (.putfield 15, 3) := by decide +kernel
theorem dX7_put_4 : decode cX7_put 4 = .ok (.ifCond .lt 44, 3) := by decide +kernel
theorem dX7_put_42 : decode cX7_put 42 = .ok (.iinc 2 (-8), 3) := by decide +kernel
theorem dX7_put_45 : decode cX7_put 45 = .ok (.goto (-42), 3) := by decide +kernel
theorem dX7_put_48 : decode cX7_put 48 = .ok (.return_, 1) := by decide +kernel
theorem dX7_put_7 : decode cX7_put 7 = .ok (.aload_n 0, 1) := by decide +kernel
theorem dX7_put_8 : decode cX7_put 8 = .ok (.getfield 15, 3) := by decide +kernel
def vfX7_put : List Cond := List.cons (.code yX7_put cX7_put 3 none) (apW [.fieldLink RX7 15 "HookPier$Reader" "fed" "I", .fieldLink RX7 9 "HookPier$Reader" "text" "[B"] (wsX70))
theorem ifX7_put_X7 : ∀ w ∈ wsX70, w ∈ vfX7_put := fun _ h => (List.mem_cons_of_mem _ (List.mem_append_right _ h))
theorem qfX7_put : Good vfX7_put := gd_cons (by decide +kernel) (gd_app (gd_dec (by decide +kernel) : Good [.fieldLink RX7 15 "HookPier$Reader" "fed" "I", .fieldLink RX7 9 "HookPier$Reader" "text" "[B"]) qsX7)
set_option maxHeartbeats 2000000 in
set_option maxRecDepth 100000 in
theorem kfX7_put (l : Launch) (dC : Nat → ClassId) (dI : Nat → Nat → Nat) (a0 : Nat) (k1 : Int32) (ur : Nat → Nat) (kr : Nat → ClassId) (r_r : TX7_r) (sz : Nat) (out : TX7_r) (h : f_X7_put k1 r_r = some out) : Met l yX7_put vfX7_put ({ frames := 0, cells := 0, slots := 0, locals := 0 }) (PC (dC, dI) [.ref a0, .int k1] sz (bX7 a0 ur kr r_r []) (tX7 kr ([]))) (va_Qv (S := Unit) (fun _ => True) (fun _ t => BC (dC, dI) (va_A (bX7 a0 ur kr r_r []) sz) (bX7 a0 ur kr out []) [] t) (va_A (bX7 a0 ur kr r_r []) sz)) 0 0 (va_A (bX7 a0 ur kr r_r []) sz) := by
  refine Met.ofW (cc := cX7_put) (maxL := 3) (ret := none) (by decide) rfl ?_
  intro p e s m args below meth c s₁ B0 hml hv
  obtain ⟨rfl, hsz, hP, hK, hD0, hN⟩ := hv
  have hx := B0.exec
  have hb := B0.bytes
  have hr := B0.returns
  have hts := atoms_spec (ws := vfX7_put) B0.pre
  have hown : s.vm.findClass RX7 = some m.cls := findClass_of_methodNamed B0.named
  have hlocks := B0.notSynchronized
  subst hsz
  have hD := hD0.self (sz := s.heap.size)
  generalize hAe : va_A (bX7 a0 ur kr r_r []) s.heap.size = A at hD ⊢
  have hA : ∀ q : Nat, s.heap.size ≤ q → A q := fun q h => by rw [← hAe]; exact Or.inr h
  have hS : va_S A s.heap s.heap [] := va_S.rf
  have hP : va_P (dC, dI) vwCl (bX7 a0 ur kr r_r []) s.heap := hP
  have hl := lv_entry ([.ref a0, .int k1]) (n := 3) (Nat.le_of_ble_eq_true rfl)
  rw [lg_entry_eq]
  generalize (lg_sl ([.ref a0, .int k1]) ++ List.replicate (3 - (lg_sl ([.ref a0, .int k1])).length) Slot.unset).toArray = ls at hl ⊢
  have hl : lv_has ls 3 [(0, .ref a0), (1, .int k1)] := hl
  refine W_q (fun QQ hQQ => ?_)
  rw [f_X7_put] at h
  refine lv_bipush (v := 24) hx hb dX7_put_0 (by decide) ?_
  refine lv_istore_n (lv' := [(2, .int 24), (0, .ref a0), (1, .int k1)]) hx hb dX7_put_2 rfl hl (by decide) rfl (fun ls hl => ?_)
  have L3 : ∀ (n3 : Nat) (v3_l2 : Int32) (v3_r_r : TX7_r) (H : Heap) (locs : List Loc) (ls : Array Slot), f_X7_put_L3 k1 n3 v3_l2 v3_r_r = some out → va_P (dC, dI) vwCl (bX7 a0 ur kr v3_r_r []) H → va_D A (bX7 a0 ur kr v3_r_r []) → va_S A s.heap H locs → lv_has ls 3 [(2, .int v3_l2), (0, .ref a0), (1, .int k1)] → W p l e (headSpec vfX7_put { frames := 0, cells := 0, slots := 0, locals := 0 }).room s m ([.ref a0, .int k1]).toArray below meth c H locs 0 0 QQ (F0 m 3 ls []) := by
    intro n3
    induction n3 with
    | zero =>
      intro v3_l2 v3_r_r H locs ls h  _ _ _ _
      rw [f_X7_put_L3] at h
      cases h
    | succ n3 ih3 =>
      intro v3_l2 v3_r_r H locs ls h  hP hD hS hl
      rw [f_X7_put_L3] at h
      refine lv_iload_n hx hb dX7_put_3 rfl (lv_at hl 0 rfl) ?_
      refine lv_if_lt (tgt := 48) hx hb dX7_put_4 (by decide) (fun c4 => ?_) (fun c4 => ?_)
      · have h := (if_pos c4).symm.trans h
        obtain rfl := Option.some.inj h
        have hP9 := hP.sub (ws' := (bX7 a0 ur kr v3_r_r [])) [0, 1, 2, 3] rfl
        have hD9 := hD.sub (ws' := (bX7 a0 ur kr v3_r_r [])) [0, 1, 2, 3] (by decide) rfl
        have hK9 := hK.sub (tys' := []) [] rfl
        rw [hQQ]
        exact W.vret hx hb hr (fun t ht hW => ⟨⟨(), rfl, trivial, by rw [ht]; exact hP9, va_K.moved hW.alike hK9, hD9⟩, hS.F ht⟩) hS.2.2 dX7_put_48
      · have h := (if_neg c4).symm.trans h
        refine lv_aload_n hx hb dX7_put_7 rfl (lv_at hl 1 rfl) ?_
        refine va_get (D := (dC, dI)) (ci := 5) (v := .int v3_r_r.2.1) (C := RX7) (T := TX7) (N := 12) hx hb hts ifX7_put_X7 hown hK hP 0 rfl rfl 1 (by decide) (hts (.fieldLink RX7 15 "HookPier$Reader" "fed" "I") (List.mem_of_getElem? (i := 1) rfl)) (fun _ h9 => h9) rfl dX7_put_8 ?_
        refine lv_aload_n hx hb dX7_put_11 rfl (lv_at hl 1 rfl) ?_
        refine va_get (D := (dC, dI)) (ci := 5) (v := .ref (ur 0)) (C := RX7) (T := TX7) (N := 12) hx hb hts ifX7_put_X7 hown hK hP 0 rfl rfl 0 (by decide) (hts (.fieldLink RX7 9 "HookPier$Reader" "text" "[B") (List.mem_of_getElem? (i := 2) rfl)) (fun _ h9 => h9) rfl dX7_put_12 ?_
        refine va_alen (v := 900) hx hb hK hP 1 0 rfl rfl rfl dX7_put_15 ?_
        refine lv_icmp_ge (tgt := 48) hx hb dX7_put_16 (by decide) (fun c16 => ?_) (fun c16 => ?_)
        · have h := (if_pos c16).symm.trans h
          obtain rfl := Option.some.inj h
          have hP9 := hP.sub (ws' := (bX7 a0 ur kr v3_r_r [])) [0, 1, 2, 3] rfl
          have hD9 := hD.sub (ws' := (bX7 a0 ur kr v3_r_r [])) [0, 1, 2, 3] (by decide) rfl
          have hK9 := hK.sub (tys' := []) [] rfl
          rw [hQQ]
          exact W.vret hx hb hr (fun t ht hW => ⟨⟨(), rfl, trivial, by rw [ht]; exact hP9, va_K.moved hW.alike hK9, hD9⟩, hS.F ht⟩) hS.2.2 dX7_put_48
        · have h := (if_neg c16).symm.trans h
          refine lv_aload_n hx hb dX7_put_19 rfl (lv_at hl 1 rfl) ?_
          refine va_get (D := (dC, dI)) (ci := 5) (v := .ref (ur 0)) (C := RX7) (T := TX7) (N := 12) hx hb hts ifX7_put_X7 hown hK hP 0 rfl rfl 0 (by decide) (hts (.fieldLink RX7 9 "HookPier$Reader" "text" "[B") (List.mem_of_getElem? (i := 2) rfl)) (fun _ h9 => h9) rfl dX7_put_20 ?_
          refine lv_aload_n hx hb dX7_put_23 rfl (lv_at hl 1 rfl) ?_
          refine va_get (D := (dC, dI)) (ci := 5) (v := .int v3_r_r.2.1) (C := RX7) (T := TX7) (N := 12) hx hb hts ifX7_put_X7 hown hK hP 0 rfl rfl 1 (by decide) (hts (.fieldLink RX7 15 "HookPier$Reader" "fed" "I") (List.mem_of_getElem? (i := 1) rfl)) (fun _ h9 => h9) rfl dX7_put_24 ?_
          refine lv_iload_n hx hb dX7_put_27 rfl (lv_at hl 2 rfl) ?_
          refine lv_iload_n hx hb dX7_put_28 rfl (lv_at hl 0 rfl) ?_
          refine lv_ishr hx hb dX7_put_29 ?_
          refine lv_i2b hx hb dX7_put_30 rfl ?_
          obtain ⟨hg31, h⟩ := gA_of h
          refine va_bast hx hb hK hP hD hS 1 0 rfl rfl hg31 dX7_put_31 (fun H locs hP hD hS => ?_)
          have hP : va_P (dC, dI) vwCl (bX7 a0 ur kr ((upd v3_r_r.1 (v3_r_r.2.1).toNatClampNeg (vp_nar .byte ((k1 >>> (v3_l2 &&& 31))).toInt8.toInt32)), v3_r_r.2) []) H := hP
          have hD : va_D A (bX7 a0 ur kr ((upd v3_r_r.1 (v3_r_r.2.1).toNatClampNeg (vp_nar .byte ((k1 >>> (v3_l2 &&& 31))).toInt8.toInt32)), v3_r_r.2) []) := hD
          refine lv_aload_n hx hb dX7_put_32 rfl (lv_at hl 1 rfl) ?_
          refine lv_dup hx hb dX7_put_33 rfl ?_
          refine va_get (D := (dC, dI)) (ci := 5) (v := .int v3_r_r.2.1) (C := RX7) (T := TX7) (N := 12) hx hb hts ifX7_put_X7 hown hK hP 0 rfl rfl 1 (by decide) (hts (.fieldLink RX7 15 "HookPier$Reader" "fed" "I") (List.mem_of_getElem? (i := 1) rfl)) (fun _ h9 => h9) rfl dX7_put_34 ?_
          refine lv_iconst (v := 1) hx hb dX7_put_37 (by decide) ?_
          refine lv_iadd hx hb dX7_put_38 ?_
          refine va_put (D := (dC, dI)) (ci := 5) (v := .int (v3_r_r.2.1 + (1 : Int32))) (ty := .int) (C := RX7) (T := TX7) (N := 12) hx hb hts ifX7_put_X7 tyX7 tyX7_ok nmX7 hown hK hP hD hS 0 rfl rfl 1 (by decide) (hts (.fieldLink RX7 15 "HookPier$Reader" "fed" "I") (List.mem_of_getElem? (i := 1) rfl)) (fun _ h9 => h9) rfl (by decide +kernel) rfl rfl (Nat.le_of_ble_eq_true rfl) dX7_put_39 (fun H locs hP hD hS => ?_)
          have hP : va_P (dC, dI) vwCl (bX7 a0 ur kr ((upd v3_r_r.1 (v3_r_r.2.1).toNatClampNeg (vp_nar .byte ((k1 >>> (v3_l2 &&& 31))).toInt8.toInt32)), (v3_r_r.2.1 + (1 : Int32)), v3_r_r.2.2) []) H := hP
          have hD : va_D A (bX7 a0 ur kr ((upd v3_r_r.1 (v3_r_r.2.1).toNatClampNeg (vp_nar .byte ((k1 >>> (v3_l2 &&& 31))).toInt8.toInt32)), (v3_r_r.2.1 + (1 : Int32)), v3_r_r.2.2) []) := hD
          refine lv_iinc (v := (v3_l2 + (-8 : Int32))) (lv' := [(2, .int (v3_l2 + (-8 : Int32))), (0, .ref a0), (1, .int k1)]) hx hb dX7_put_42 hl (k := 0) rfl rfl (by decide) rfl (fun ls hl => ?_)
          refine lv_goto (tgt := 3) hx hb dX7_put_45 (by decide) ?_
          exact ih3 (v3_l2 + (-8 : Int32)) ((upd v3_r_r.1 (v3_r_r.2.1).toNatClampNeg (vp_nar .byte ((k1 >>> (v3_l2 &&& 31))).toInt8.toInt32)), (v3_r_r.2.1 + (1 : Int32)), v3_r_r.2.2) H _ ls h  hP hD hS (lv_sub hl [0, 1, 2] rfl)
  exact L3 FU (24 : Int32) r_r s.heap _ ls h  hP hD hS (lv_sub hl [0, 1, 2] rfl)
