noncomputable def zrX7_takeBait_0 : List ZR := zc 0 true (.aload_n 0) 1 (zc 1 true (.invokevirtual 220) 3 (zc 4 true (.ifCond .ne 9) 3 (zc 7 true (.aload_n 0) 1 (zc 8 true (.iconst 1) 1 (zc 9 true (.invokevirtual 72) 3 (zc 12 true (.ireturn) 1 (zc 13 true (.aload_n 0) 1 (zc 14 true (.aload_n 0) 1 (zc 15 true (.invokevirtual 223) 3 (zc 18 true (.invokevirtual 227) 3 (zc 21 true (.istore_n 1) 1 (zc 22 true (.iload_n 1) 1 (zc 23 true (.iconst (-1)) 1 (zc 24 true (.if_icmp .eq 13) 3 (zc 27 true (.aload_n 0) 1 (zc 28 true (.getfield 38) 3 (zc 31 true (.iload_n 1) 1 (zc 32 true (.iaload) 1 (zc 33 true (.iconst (-1)) 1 (zc 34 true (.if_icmp .ne 9) 3 (zc 37 true (.aload_n 0) 1 (zc 38 true (.iconst 2) 1 (zc 39 true (.invokevirtual 72) 3 (zc 42 true (.ireturn) 1 (zc 43 true (.aload_n 0) 1 (zc 44 true (.aload_n 0) 1 (zc 45 true (.getfield 38) 3 (zc 48 true (.iload_n 1) 1 (zc 49 true (.iaload) 1 (zc 50 true (.putfield 31) 3 (zc 53 true (.aload_n 0) 1 (zc 54 true (.invokevirtual 62) 3 (zc 57 true (.iconst 1) 1 (zc 58 true (.ireturn) 1 ([])))))))))))))))))))))))))))))))))))
theorem zrX7_takeBait_0_ok : zck 0 ((zby cX7_takeBait).drop 0) zrX7_takeBait_0 = true := by decide +kernel
def vfX7_takeBait : List Cond := List.cons (.code yX7_takeBait cX7_takeBait 2 (some .boolean)) (apW [.methodLink RX7 220 yX7_isName, .instanceMethod yX7_isName, .selects RX7 yX7_isName yX7_isName, .initialized RX7, .methodLink RX7 223 yX7_wordCode, .instanceMethod yX7_wordCode, .selects RX7 yX7_wordCode yX7_wordCode, .methodLink RX7 227 yX7_nameOf, .instanceMethod yX7_nameOf, .selects RX7 yX7_nameOf yX7_nameOf, .methodLink RX7 72 yX7_fail, .instanceMethod yX7_fail, .selects RX7 yX7_fail yX7_fail, .fieldLink RX7 38 "HookPier$Reader" "nameBait" "[I", .fieldLink RX7 31 "HookPier$Reader" "value" "I", .methodLink RX7 62 yX7_advance, .instanceMethod yX7_advance, .selects RX7 yX7_advance yX7_advance] (apW wsX70 (apW vfX7_isName (apW vfX7_wordCode (apW vfX7_nameOf (apW vfX7_fail (vfX7_advance)))))))
theorem ifX7_takeBait_X7 : ∀ w ∈ wsX70, w ∈ vfX7_takeBait := fun _ h => (List.mem_cons_of_mem _ (List.mem_append_right _ (List.mem_append_left _ h)))
theorem qfX7_takeBait : Good vfX7_takeBait := gd_cons (by decide +kernel) (gd_app (gd_dec (by decide +kernel) : Good [.methodLink RX7 220 yX7_isName, .instanceMethod yX7_isName, .selects RX7 yX7_isName yX7_isName, .initialized RX7, .methodLink RX7 223 yX7_wordCode, .instanceMethod yX7_wordCode, .selects RX7 yX7_wordCode yX7_wordCode, .methodLink RX7 227 yX7_nameOf, .instanceMethod yX7_nameOf, .selects RX7 yX7_nameOf yX7_nameOf, .methodLink RX7 72 yX7_fail, .instanceMethod yX7_fail, .selects RX7 yX7_fail yX7_fail, .fieldLink RX7 38 "HookPier$Reader" "nameBait" "[I", .fieldLink RX7 31 "HookPier$Reader" "value" "I", .methodLink RX7 62 yX7_advance, .instanceMethod yX7_advance, .selects RX7 yX7_advance yX7_advance]) (gd_app qsX7 (gd_app qfX7_isName (gd_app qfX7_wordCode (gd_app qfX7_nameOf (gd_app qfX7_fail qfX7_advance))))))
theorem gfX7_takeBait_0 : GoodIn vfX7_takeBait (wsV RX7 220 RX7 yX7_isName vfX7_isName) := goodIn_app (goodIn_r [.methodLink RX7 220 yX7_isName, .instanceMethod yX7_isName, .selects RX7 yX7_isName yX7_isName, .initialized RX7] [1, 2, 3, 4] rfl (by decide +kernel)) (goodIn_m (fun _ h => (List.mem_cons_of_mem _ (List.mem_append_right _ (List.mem_append_right _ (List.mem_append_left _ h))))) qfX7_isName)
theorem gfX7_takeBait_1 : GoodIn vfX7_takeBait (wsV RX7 223 RX7 yX7_wordCode vfX7_wordCode) := goodIn_app (goodIn_r [.methodLink RX7 223 yX7_wordCode, .instanceMethod yX7_wordCode, .selects RX7 yX7_wordCode yX7_wordCode, .initialized RX7] [5, 6, 7, 4] rfl (by decide +kernel)) (goodIn_m (fun _ h => (List.mem_cons_of_mem _ (List.mem_append_right _ (List.mem_append_right _ (List.mem_append_right _ (List.mem_append_left _ h)))))) qfX7_wordCode)
theorem gfX7_takeBait_2 : GoodIn vfX7_takeBait (wsV RX7 227 RX7 yX7_nameOf vfX7_nameOf) := goodIn_app (goodIn_r [.methodLink RX7 227 yX7_nameOf, .instanceMethod yX7_nameOf, .selects RX7 yX7_nameOf yX7_nameOf, .initialized RX7] [8, 9, 10, 4] rfl (by decide +kernel)) (goodIn_m (fun _ h => (List.mem_cons_of_mem _ (List.mem_append_right _ (List.mem_append_right _ (List.mem_append_right _ (List.mem_append_right _ (List.mem_append_left _ h))))))) qfX7_nameOf)
theorem gfX7_takeBait_3 : GoodIn vfX7_takeBait (wsV RX7 72 RX7 yX7_fail vfX7_fail) := goodIn_app (goodIn_r [.methodLink RX7 72 yX7_fail, .instanceMethod yX7_fail, .selects RX7 yX7_fail yX7_fail, .initialized RX7] [11, 12, 13, 4] rfl (by decide +kernel)) (goodIn_m (fun _ h => (List.mem_cons_of_mem _ (List.mem_append_right _ (List.mem_append_right _ (List.mem_append_right _ (List.mem_append_right _ (List.mem_append_right _ (List.mem_append_left _ h)))))))) qfX7_fail)
theorem gfX7_takeBait_4 : GoodIn vfX7_takeBait (wsV RX7 62 RX7 yX7_advance vfX7_advance) := goodIn_app (goodIn_r [.methodLink RX7 62 yX7_advance, .instanceMethod yX7_advance, .selects RX7 yX7_advance yX7_advance, .initialized RX7] [16, 17, 18, 4] rfl (by decide +kernel)) (goodIn_m (fun _ h => (List.mem_cons_of_mem _ (List.mem_append_right _ (List.mem_append_right _ (List.mem_append_right _ (List.mem_append_right _ (List.mem_append_right _ (List.mem_append_right _ h)))))))) qfX7_advance)
set_option maxHeartbeats 2000000 in
set_option maxRecDepth 100000 in
theorem kfX7_takeBait (l : Launch) (dC : Nat → ClassId) (dI : Nat → Nat → Nat) (a0 : Nat) (ur : Nat → Nat) (kr : Nat → ClassId) (r_r : TX7_r) (sz : Nat) (B : Nat) (out : (Int32 × TX7_r)) (h : f_X7_takeBait r_r = some out) : Met l yX7_takeBait vfX7_takeBait ({ frames := 6, cells := 0, slots := 0, locals := 127 }) (PF (dC, dI) B [.ref a0] sz (bX7 a0 ur kr r_r []) (tX7 kr ([])) []) (va_Qi (S := Unit) (fun (r : Int32) _ => r = out.1 ∧ (0 ≤ r.toInt ∧ r.toInt ≤ 1)) (fun _ t => BC (dC, dI) (va_A (bX7 a0 ur kr r_r []) sz) (bX7 a0 ur kr out.2 []) [] t) (va_A (bX7 a0 ur kr r_r []) sz)) 0 0 (va_A (bX7 a0 ur kr r_r []) sz) := by
  refine Met.ofW (cc := cX7_takeBait) (maxL := 2) (ret := (some .boolean)) (by decide) rfl ?_
  intro p e s m args below meth c s₁ B0 hml hv
  obtain ⟨rfl, hsz, hP, hK, hD0, hN, hBs, hE, hX⟩ := hv
  have hBA := PF_reg hD0 hBs
  have hx := B0.exec
  have hb := B0.bytes
  have hr := B0.returns
  have hts := atoms_spec (ws := vfX7_takeBait) B0.pre
  have hown : s.vm.findClass RX7 = some m.cls := findClass_of_methodNamed B0.named
  have hlocks := B0.notSynchronized
  subst hsz
  have hD := hD0.self (sz := s.heap.size)
  generalize hAe : va_A (bX7 a0 ur kr r_r []) s.heap.size = A at hD hBA ⊢
  have hA : ∀ q : Nat, s.heap.size ≤ q → A q := fun q h => by rw [← hAe]; exact Or.inr h
  have hS : va_S A s.heap s.heap [] := va_S.rf
  have hP : va_P (dC, dI) vwCl (bX7 a0 ur kr r_r []) s.heap := hP
  have hl := lv_entry ([.ref a0]) (n := 2) (Nat.le_of_ble_eq_true rfl)
  rw [lg_entry_eq]
  generalize (lg_sl ([.ref a0]) ++ List.replicate (2 - (lg_sl ([.ref a0])).length) Slot.unset).toArray = ls at hl ⊢
  have hl : lv_has ls 2 [(0, .ref a0)] := hl
  have hB : RB B s A := ⟨hBA, hBs⟩
  refine W_q (fun QQ hQQ => ?_)
  rw [f_X7_takeBait] at h
  refine lv_aload_n hx hb (zat zrX7_takeBait_0_ok 0 rfl) rfl (lv_at hl 0 rfl) ?_
  obtain ⟨o1, eo1, h⟩ := bd_of h
  refine ck_i (wc := (bX7 a0 ur kr r_r [])) (wr := []) hP hD hK hS hA [0, 1, 2, 3] [] rfl rfl (by decide) (by decide) (by decide) (fun hPc hDc => (va_runV (As := []) (rest := []) ⟨hx, hb, hml, hown, hts⟩ (kfX7_isName l dC dI a0 ur kr r_r s.heap.size B o1 eo1) (cwV 0 hts gfX7_takeBait_0 rfl rfl rfl (by decide +kernel) ⟨(Nat.le_of_ble_eq_true rfl), (Nat.le_of_ble_eq_true rfl)⟩) (PVF hPc (hK.sub (tys' := (tX7 kr ([]))) [0, 1, 2] rfl) hDc hN hS hB hE S1n 0 rfl rfl) rfl rfl hl.1 rfl (lv_room (Nat.le_of_ble_eq_true rfl)) (zat zrX7_takeBait_0_ok 1 rfl) ⟨(Nat.le_of_ble_eq_true rfl), (Nat.le_of_ble_eq_true rfl)⟩)) (fun r1 _ H locs hw hP hD _ hS => ?_)
  obtain ⟨hw, br1⟩ := hw
  obtain rfl := hw.symm
  obtain ⟨hP, hD⟩ := pd_mk (bX7 a0 ur kr r_r []) hP hD
  refine lv_if_ne (tgt := 13) hx hb (zat zrX7_takeBait_0_ok 2 rfl) (by decide) (fun c4 => ?_) (fun c4 => ?_)
  · have h := (if_neg c4).symm.trans h
    refine lv_aload_n hx hb (zat zrX7_takeBait_0_ok 7 rfl) rfl (lv_at hl 0 rfl) ?_
    refine lv_aload_n hx hb (zat zrX7_takeBait_0_ok 8 rfl) rfl (lv_at hl 0 rfl) ?_
    obtain ⟨o15, eo15, h⟩ := bd_of h
    refine ck_l (wc := (bX7 a0 ur kr r_r [])) (wr := []) hP hD hK hS hA [0, 1, 2, 3] [] rfl rfl (by decide) (by decide) (by decide) (fun hPc hDc => (va_runV (As := []) (rest := [.ref a0]) ⟨hx, hb, hml, hown, hts⟩ (kfX7_wordCode l dC dI a0 ur kr r_r H.size o15 eo15) (cwV 0 hts gfX7_takeBait_1 rfl rfl rfl (by decide +kernel) ⟨(Nat.le_of_ble_eq_true rfl), (Nat.le_of_ble_eq_true rfl)⟩) (PV hPc (hK.sub (tys' := (tX7 kr ([]))) [0, 1, 2] rfl) hDc hN 0 rfl rfl) rfl rfl hl.1 rfl (lv_room (Nat.le_of_ble_eq_true rfl)) (zat zrX7_takeBait_0_ok 9 rfl) ⟨(Nat.le_of_ble_eq_true rfl), (Nat.le_of_ble_eq_true rfl)⟩)) (fun r15 _ H locs hw hP hD _ hS => ?_)
    obtain rfl := hw.symm
    obtain ⟨hP, hD⟩ := pd_mk (bX7 a0 ur kr r_r []) hP hD
    obtain ⟨o18, eo18, h⟩ := bd_of h
    refine ck_i (wc := (bX7 a0 ur kr r_r [])) (wr := []) hP hD hK hS hA [0, 1, 2, 3] [] rfl rfl (by decide) (by decide) (by decide) (fun hPc hDc => (va_runV (As := [.long o15]) (rest := []) ⟨hx, hb, hml, hown, hts⟩ (kfX7_nameOf l dC dI a0 o15 ur kr r_r H.size o18 eo18) (cwV 1 hts gfX7_takeBait_2 rfl rfl rfl (by decide +kernel) ⟨(Nat.le_of_ble_eq_true rfl), (Nat.le_of_ble_eq_true rfl)⟩) (PV hPc (hK.sub (tys' := (tX7 kr ([]))) [0, 1, 2] rfl) hDc hN 0 rfl rfl) rfl rfl hl.1 rfl (lv_room (Nat.le_of_ble_eq_true rfl)) (zat zrX7_takeBait_0_ok 10 rfl) ⟨(Nat.le_of_ble_eq_true rfl), (Nat.le_of_ble_eq_true rfl)⟩)) (fun r18 _ H locs hw hP hD _ hS => ?_)
    obtain rfl := hw.symm
    obtain ⟨hP, hD⟩ := pd_mk (bX7 a0 ur kr r_r []) hP hD
    refine lv_istore_n (lv' := [(1, .int o18), (0, .ref a0)]) hx hb (zat zrX7_takeBait_0_ok 11 rfl) rfl hl (by decide) rfl (fun ls hl => ?_)
    refine lv_iload_n hx hb (zat zrX7_takeBait_0_ok 12 rfl) rfl (lv_at hl 0 rfl) ?_
    refine lv_iconst (v := (-1)) hx hb (zat zrX7_takeBait_0_ok 13 rfl) (by decide) ?_
    have J37 : ∀ (H : Heap) (locs : List Loc) (ls : Array Slot), f_X7_takeBait_J37 r_r = some out → va_P (dC, dI) vwCl (bX7 a0 ur kr r_r []) H → va_D A (bX7 a0 ur kr r_r []) → va_S A s.heap H locs → lv_has ls 2 [(0, .ref a0)] → W p l e (headSpec vfX7_takeBait { frames := 6, cells := 0, slots := 0, locals := 127 }).room s m ([.ref a0]).toArray below meth c H locs 0 0 QQ (F0 m 37 ls []) := by
      intro  H locs ls h  hP hD hS hl
      rw [f_X7_takeBait_J37] at h
      refine lv_aload_n hx hb (zat zrX7_takeBait_0_ok 21 rfl) rfl (lv_at hl 0 rfl) ?_
      refine lv_iconst (v := 2) hx hb (zat zrX7_takeBait_0_ok 22 rfl) (by decide) ?_
      obtain ⟨o39, eo39⟩ : ∃ o, o = f_X7_fail (2 : Int32) r_r := ⟨_, rfl⟩
      have h := nm_of h o39 eo39
      refine ck_i (wc := (bX7 a0 ur kr r_r [])) (wr := []) hP hD hK hS hA [0, 1, 2, 3] [] rfl rfl (by decide) (by decide) (by decide) (fun hPc hDc => (va_runV (As := [.int 2]) (rest := []) ⟨hx, hb, hml, hown, hts⟩ (kfX7_fail l dC dI a0 (2 : Int32) ur kr r_r H.size o39 eo39.symm) (cwV 1 hts gfX7_takeBait_3 rfl rfl rfl (by decide +kernel) ⟨(Nat.le_of_ble_eq_true rfl), (Nat.le_of_ble_eq_true rfl)⟩) (PV hPc (hK.sub (tys' := (tX7 kr ([]))) [0, 1, 2] rfl) hDc hN 0 rfl rfl) rfl rfl hl.1 rfl (lv_room (Nat.le_of_ble_eq_true rfl)) (zat zrX7_takeBait_0_ok 23 rfl) ⟨(Nat.le_of_ble_eq_true rfl), (Nat.le_of_ble_eq_true rfl)⟩)) (fun r39 _ H locs hw hP hD _ hS => ?_)
      obtain ⟨hw, br39⟩ := hw
      obtain rfl := hw
      obtain ⟨hP, hD⟩ := pd_mk (bX7 a0 ur kr o39 []) hP hD
      obtain rfl := Option.some.inj h
      obtain ⟨hP9, hD9⟩ := pd_sub (bX7 a0 ur kr o39 []) [0, 1, 2, 3] hP hD (by decide) rfl
      have hK9 := hK.sub (tys' := []) [] rfl
      rw [hQQ]
      exact W.zret (v := (0 : Int32)) hx hb hr rfl (fun t ht hW => ⟨⟨(0 : Int32), (), rfl, ⟨rfl, (by decide)⟩, by rw [ht]; exact hP9, va_K.moved hW.alike hK9, hD9⟩, hS.F ht⟩) hS.2.2 (zat zrX7_takeBait_0_ok 24 rfl)
    refine lv_icmp_eq (tgt := 37) hx hb (zat zrX7_takeBait_0_ok 14 rfl) (by decide) (fun c24 => ?_) (fun c24 => ?_)
    · have h := (if_pos c24).symm.trans h
      exact J37  H _ ls h  hP hD hS (lv_sub hl [1] rfl)
    · have h := (if_neg c24).symm.trans h
      refine lv_aload_n hx hb (zat zrX7_takeBait_0_ok 15 rfl) rfl (lv_at hl 1 rfl) ?_
      refine va_get (D := (dC, dI)) (ci := 5) (v := .ref (ur 2)) (C := RX7) (T := TX7) (N := 12) hx hb hts ifX7_takeBait_X7 hown hK hP 0 rfl rfl 8 (by decide) (hts (.fieldLink RX7 38 "HookPier$Reader" "nameBait" "[I") (List.mem_of_getElem? (i := 14) rfl)) (fun _ h9 => h9) rfl (zat zrX7_takeBait_0_ok 16 rfl) ?_
      refine lv_iload_n hx hb (zat zrX7_takeBait_0_ok 17 rfl) rfl (lv_at hl 0 rfl) ?_
      obtain ⟨hg32, h⟩ := gA_of h
      refine va_iald hx hb hK hP 3 2 rfl rfl hg32 (zat zrX7_takeBait_0_ok 18 rfl) ?_
      refine lv_iconst (v := (-1)) hx hb (zat zrX7_takeBait_0_ok 19 rfl) (by decide) ?_
      refine lv_icmp_ne (tgt := 43) hx hb (zat zrX7_takeBait_0_ok 20 rfl) (by decide) (fun c34 => ?_) (fun c34 => ?_)
      · have h := (if_neg c34).symm.trans h
        refine lv_aload_n hx hb (zat zrX7_takeBait_0_ok 25 rfl) rfl (lv_at hl 1 rfl) ?_
        refine lv_aload_n hx hb (zat zrX7_takeBait_0_ok 26 rfl) rfl (lv_at hl 1 rfl) ?_
        refine va_get (D := (dC, dI)) (ci := 5) (v := .ref (ur 2)) (C := RX7) (T := TX7) (N := 12) hx hb hts ifX7_takeBait_X7 hown hK hP 0 rfl rfl 8 (by decide) (hts (.fieldLink RX7 38 "HookPier$Reader" "nameBait" "[I") (List.mem_of_getElem? (i := 14) rfl)) (fun _ h9 => h9) rfl (zat zrX7_takeBait_0_ok 27 rfl) ?_
        refine lv_iload_n hx hb (zat zrX7_takeBait_0_ok 28 rfl) rfl (lv_at hl 0 rfl) ?_
        obtain ⟨hg49, h⟩ := gA_of h
        refine va_iald hx hb hK hP 3 2 rfl rfl hg49 (zat zrX7_takeBait_0_ok 29 rfl) ?_
        refine va_put (D := (dC, dI)) (ci := 5) (v := .int (r_r.2.2.2.2.2.2.2.2.1 (o18).toNatClampNeg)) (ty := .int) (C := RX7) (T := TX7) (N := 12) hx hb hts ifX7_takeBait_X7 tyX7 tyX7_ok nmX7 hown hK hP hD hS 0 rfl rfl 6 (by decide) (hts (.fieldLink RX7 31 "HookPier$Reader" "value" "I") (List.mem_of_getElem? (i := 15) rfl)) (fun _ h9 => h9) rfl (by decide +kernel) rfl rfl (Nat.le_of_ble_eq_true rfl) (zat zrX7_takeBait_0_ok 30 rfl) (fun H locs hP hD hS => ?_)
        obtain ⟨hP, hD⟩ := pd_mk (bX7 a0 ur kr (r_r.1, r_r.2.1, r_r.2.2.1, r_r.2.2.2.1, r_r.2.2.2.2.1, r_r.2.2.2.2.2.1, (r_r.2.2.2.2.2.2.2.2.1 (o18).toNatClampNeg), r_r.2.2.2.2.2.2.2) []) hP hD
        refine lv_aload_n hx hb (zat zrX7_takeBait_0_ok 31 rfl) rfl (lv_at hl 1 rfl) ?_
        obtain ⟨o54, eo54, h⟩ := bd_of h
        refine ck_v (wc := (bX7 a0 ur kr (r_r.1, r_r.2.1, r_r.2.2.1, r_r.2.2.2.1, r_r.2.2.2.2.1, r_r.2.2.2.2.2.1, (r_r.2.2.2.2.2.2.2.2.1 (o18).toNatClampNeg), r_r.2.2.2.2.2.2.2) [])) (wr := []) hP hD hK hS hA [0, 1, 2, 3] [] rfl rfl (by decide) (by decide) (by decide) (fun hPc hDc => (va_runV (As := []) (rest := []) ⟨hx, hb, hml, hown, hts⟩ (kfX7_advance l dC dI a0 ur kr (r_r.1, r_r.2.1, r_r.2.2.1, r_r.2.2.2.1, r_r.2.2.2.2.1, r_r.2.2.2.2.2.1, (r_r.2.2.2.2.2.2.2.2.1 (o18).toNatClampNeg), r_r.2.2.2.2.2.2.2) H.size o54 eo54) (cwV 0 hts gfX7_takeBait_4 rfl rfl rfl (by decide +kernel) ⟨(Nat.le_of_ble_eq_true rfl), (Nat.le_of_ble_eq_true rfl)⟩) (PV hPc (hK.sub (tys' := (tX7 kr ([]))) [0, 1, 2] rfl) hDc hN 0 rfl rfl) rfl rfl hl.1 rfl (lv_room (Nat.le_of_ble_eq_true rfl)) (zat zrX7_takeBait_0_ok 32 rfl) ⟨(Nat.le_of_ble_eq_true rfl), (Nat.le_of_ble_eq_true rfl)⟩)) (fun _ H locs hw hP hD _ hS => ?_)
        obtain ⟨hP, hD⟩ := pd_mk (bX7 a0 ur kr o54 []) hP hD
        refine lv_iconst (v := 1) hx hb (zat zrX7_takeBait_0_ok 33 rfl) (by decide) ?_
        obtain rfl := Option.some.inj h
        obtain ⟨hP9, hD9⟩ := pd_sub (bX7 a0 ur kr o54 []) [0, 1, 2, 3] hP hD (by decide) rfl
        have hK9 := hK.sub (tys' := []) [] rfl
        rw [hQQ]
        exact W.zret (v := (1 : Int32)) hx hb hr rfl (fun t ht hW => ⟨⟨(1 : Int32), (), rfl, ⟨rfl, (by decide)⟩, by rw [ht]; exact hP9, va_K.moved hW.alike hK9, hD9⟩, hS.F ht⟩) hS.2.2 (zat zrX7_takeBait_0_ok 34 rfl)
      · have h := (if_pos c34).symm.trans h
        exact J37  H _ ls h  hP hD hS (lv_sub hl [1] rfl)
  · have h := (if_pos c4).symm.trans h
    refine lv_aload_n hx hb (zat zrX7_takeBait_0_ok 3 rfl) rfl (lv_at hl 0 rfl) ?_
    refine lv_iconst (v := 1) hx hb (zat zrX7_takeBait_0_ok 4 rfl) (by decide) ?_
    obtain ⟨o9, eo9⟩ : ∃ o, o = f_X7_fail (1 : Int32) r_r := ⟨_, rfl⟩
    have h := nm_of h o9 eo9
    refine ck_i (wc := (bX7 a0 ur kr r_r [])) (wr := []) hP hD hK hS hA [0, 1, 2, 3] [] rfl rfl (by decide) (by decide) (by decide) (fun hPc hDc => (va_runV (As := [.int 1]) (rest := []) ⟨hx, hb, hml, hown, hts⟩ (kfX7_fail l dC dI a0 (1 : Int32) ur kr r_r H.size o9 eo9.symm) (cwV 1 hts gfX7_takeBait_3 rfl rfl rfl (by decide +kernel) ⟨(Nat.le_of_ble_eq_true rfl), (Nat.le_of_ble_eq_true rfl)⟩) (PV hPc (hK.sub (tys' := (tX7 kr ([]))) [0, 1, 2] rfl) hDc hN 0 rfl rfl) rfl rfl hl.1 rfl (lv_room (Nat.le_of_ble_eq_true rfl)) (zat zrX7_takeBait_0_ok 5 rfl) ⟨(Nat.le_of_ble_eq_true rfl), (Nat.le_of_ble_eq_true rfl)⟩)) (fun r9 _ H locs hw hP hD _ hS => ?_)
    obtain ⟨hw, br9⟩ := hw
    obtain rfl := hw
    obtain ⟨hP, hD⟩ := pd_mk (bX7 a0 ur kr o9 []) hP hD
    obtain rfl := Option.some.inj h
    obtain ⟨hP9, hD9⟩ := pd_sub (bX7 a0 ur kr o9 []) [0, 1, 2, 3] hP hD (by decide) rfl
    have hK9 := hK.sub (tys' := []) [] rfl
    rw [hQQ]
    exact W.zret (v := (0 : Int32)) hx hb hr rfl (fun t ht hW => ⟨⟨(0 : Int32), (), rfl, ⟨rfl, (by decide)⟩, by rw [ht]; exact hP9, va_K.moved hW.alike hK9, hD9⟩, hS.F ht⟩) hS.2.2 (zat zrX7_takeBait_0_ok 6 rfl)
noncomputable def zrX7_opens_0 : List ZR := zc 0 true (.iload_n 2) 1 (zc 1 true (.ifCond .eq 9) 3 (zc 4 true (.aload_n 0) 1 (zc 5 true (.iload_n 2) 1 (zc 6 true (.invokevirtual 72) 3 (zc 9 true (.ireturn) 1 (zc 10 true (.aload_n 1) 1 (zc 11 true (.getfield 82) 3 (zc 14 true (.ifCond .ne 10) 3 (zc 17 true (.aload_n 0) 1 (zc 18 true (.bipush 6) 2 (zc 20 true (.invokevirtual 72) 3 (zc 23 true (.ireturn) 1 (zc 24 true (.aload_n 0) 1 (zc 25 true (.invokevirtual 62) 3 (zc 28 true (.iconst 1) 1 (zc 29 true (.ireturn) 1 ([])))))))))))))))))
theorem zrX7_opens_0_ok : zck 0 ((zby cX7_opens).drop 0) zrX7_opens_0 = true := by decide +kernel
def vfX7_opens : List Cond := List.cons (.code yX7_opens cX7_opens 3 (some .boolean)) (apW [.fieldLink RX7 82 "HookPier$Plan" "spots" "I", .methodLink RX7 62 yX7_advance, .instanceMethod yX7_advance, .selects RX7 yX7_advance yX7_advance, .initialized RX7, .methodLink RX7 72 yX7_fail, .instanceMethod yX7_fail, .selects RX7 yX7_fail yX7_fail] (apW wsX60 (apW vfX7_advance (vfX7_fail))))
theorem ifX7_opens_X6 : ∀ w ∈ wsX60, w ∈ vfX7_opens := fun _ h => (List.mem_cons_of_mem _ (List.mem_append_right _ (List.mem_append_left _ h)))
theorem qfX7_opens : Good vfX7_opens := gd_cons (by decide +kernel) (gd_app (gd_dec (by decide +kernel) : Good [.fieldLink RX7 82 "HookPier$Plan" "spots" "I", .methodLink RX7 62 yX7_advance, .instanceMethod yX7_advance, .selects RX7 yX7_advance yX7_advance, .initialized RX7, .methodLink RX7 72 yX7_fail, .instanceMethod yX7_fail, .selects RX7 yX7_fail yX7_fail]) (gd_app qsX6 (gd_app qfX7_advance qfX7_fail)))
theorem gfX7_opens_0 : GoodIn vfX7_opens (wsV RX7 62 RX7 yX7_advance vfX7_advance) := goodIn_app (goodIn_r [.methodLink RX7 62 yX7_advance, .instanceMethod yX7_advance, .selects RX7 yX7_advance yX7_advance, .initialized RX7] [2, 3, 4, 5] rfl (by decide +kernel)) (goodIn_m (fun _ h => (List.mem_cons_of_mem _ (List.mem_append_right _ (List.mem_append_right _ (List.mem_append_left _ h))))) qfX7_advance)
theorem gfX7_opens_1 : GoodIn vfX7_opens (wsV RX7 72 RX7 yX7_fail vfX7_fail) := goodIn_app (goodIn_r [.methodLink RX7 72 yX7_fail, .instanceMethod yX7_fail, .selects RX7 yX7_fail yX7_fail, .initialized RX7] [6, 7, 8, 5] rfl (by decide +kernel)) (goodIn_m (fun _ h => (List.mem_cons_of_mem _ (List.mem_append_right _ (List.mem_append_right _ (List.mem_append_right _ h))))) qfX7_fail)
set_option maxHeartbeats 2000000 in
set_option maxRecDepth 100000 in
theorem kfX7_opens (l : Launch) (dC : Nat → ClassId) (dI : Nat → Nat → Nat) (a0 : Nat) (a1 : Nat) (k2 : Int32) (ur : Nat → Nat) (kr : Nat → ClassId) (up : Nat → Nat) (kp : Nat → ClassId) (r_r : TX7_r) (p_p : TX6_p) (sz : Nat) (out : (Int32 × TX7_r)) (h : f_X7_opens k2 r_r p_p = some out) : KCi l yX7_opens vfX7_opens ({ frames := 2, cells := 0, slots := 0, locals := 41 }) (dC, dI) [.ref a0, .ref a1, .int k2] sz (bX7 a0 ur kr r_r (bX6 a1 up kp p_p [])) (tX7 kr (tX6 kp ([]))) (fun (r : Int32) _ => r = out.1 ∧ (0 ≤ r.toInt ∧ r.toInt ≤ 1)) (bX7 a0 ur kr out.2 (bX6 a1 up kp p_p [])) 0 0 := by
  refine Met.ofW (cc := cX7_opens) (maxL := 3) (ret := (some .boolean)) (by decide) rfl ?_
  intro p e s m args below meth c s₁ B0 hml hv
  obtain ⟨rfl, hsz, hP, hK, hD0, hN⟩ := hv
  have hx := B0.exec
  have hb := B0.bytes
  have hr := B0.returns
  have hts := atoms_spec (ws := vfX7_opens) B0.pre
  have hown : s.vm.findClass RX7 = some m.cls := findClass_of_methodNamed B0.named
  have hlocks := B0.notSynchronized
  subst hsz
  have hD := hD0.self (sz := s.heap.size)
  generalize hAe : va_A (bX7 a0 ur kr r_r (bX6 a1 up kp p_p [])) s.heap.size = A at hD ⊢
  have hA : ∀ q : Nat, s.heap.size ≤ q → A q := fun q h => by rw [← hAe]; exact Or.inr h
  have hS : va_S A s.heap s.heap [] := va_S.rf
  have hP : va_P (dC, dI) vwCl (bX7 a0 ur kr r_r (bX6 a1 up kp p_p [])) s.heap := hP
  have hl := lv_entry ([.ref a0, .ref a1, .int k2]) (n := 3) (Nat.le_of_ble_eq_true rfl)
  rw [lg_entry_eq]
  generalize (lg_sl ([.ref a0, .ref a1, .int k2]) ++ List.replicate (3 - (lg_sl ([.ref a0, .ref a1, .int k2])).length) Slot.unset).toArray = ls at hl ⊢
  have hl : lv_has ls 3 [(0, .ref a0), (1, .ref a1), (2, .int k2)] := hl
  refine W_q (fun QQ hQQ => ?_)
  rw [f_X7_opens] at h
  refine lv_iload_n hx hb (zat zrX7_opens_0_ok 0 rfl) rfl (lv_at hl 2 rfl) ?_
  refine lv_if_eq (tgt := 10) hx hb (zat zrX7_opens_0_ok 1 rfl) (by decide) (fun c1 => ?_) (fun c1 => ?_)
  · have h := (if_pos c1).symm.trans h
    refine lv_aload_n hx hb (zat zrX7_opens_0_ok 6 rfl) rfl (lv_at hl 1 rfl) ?_
    refine va_get (D := (dC, dI)) (ci := 4) (v := .int p_p.1) (C := RX6) (T := TX6) (N := 18) hx hb hts ifX7_opens_X6 hown hK hP 4 rfl rfl 0 (by decide) (hts (.fieldLink RX7 82 "HookPier$Plan" "spots" "I") (List.mem_of_getElem? (i := 1) rfl)) (fun _ h9 => h9) rfl (zat zrX7_opens_0_ok 7 rfl) ?_
    refine lv_if_ne (tgt := 24) hx hb (zat zrX7_opens_0_ok 8 rfl) (by decide) (fun c14 => ?_) (fun c14 => ?_)
    · have h := (if_neg c14).symm.trans h
      refine lv_aload_n hx hb (zat zrX7_opens_0_ok 13 rfl) rfl (lv_at hl 0 rfl) ?_
      obtain ⟨o25, eo25, h⟩ := bd_of h
      refine ck_v (wc := (bX7 a0 ur kr r_r [])) (wr := (bX6 a1 up kp p_p [])) hP hD hK hS hA [0, 1, 2, 3] [4, 5, 6, 7, 8, 9, 10, 11, 12, 13] rfl rfl (by decide) (by decide) (by decide) (fun hPc hDc => (va_runV (As := []) (rest := []) ⟨hx, hb, hml, hown, hts⟩ (kfX7_advance l dC dI a0 ur kr r_r s.heap.size o25 eo25) (cwV 0 hts gfX7_opens_0 rfl rfl rfl (by decide +kernel) ⟨(Nat.le_of_ble_eq_true rfl), (Nat.le_of_ble_eq_true rfl)⟩) (PV hPc (hK.sub (tys' := (tX7 kr ([]))) [0, 1, 2] rfl) hDc hN 0 rfl rfl) rfl rfl hl.1 rfl (lv_room (Nat.le_of_ble_eq_true rfl)) (zat zrX7_opens_0_ok 14 rfl) ⟨(Nat.le_of_ble_eq_true rfl), (Nat.le_of_ble_eq_true rfl)⟩)) (fun _ H locs hw hP hD _ hS => ?_)
      obtain ⟨hP, hD⟩ := pd_mk (bX6 a1 up kp p_p (bX7 a0 ur kr o25 [])) hP hD
      refine lv_iconst (v := 1) hx hb (zat zrX7_opens_0_ok 15 rfl) (by decide) ?_
      obtain rfl := Option.some.inj h
      obtain ⟨hP9, hD9⟩ := pd_sub (bX7 a0 ur kr o25 (bX6 a1 up kp p_p [])) [10, 11, 12, 13, 0, 1, 2, 3, 4, 5, 6, 7, 8, 9] hP hD (by decide) rfl
      have hK9 := hK.sub (tys' := []) [] rfl
      rw [hQQ]
      exact W.zret (v := (1 : Int32)) hx hb hr rfl (fun t ht hW => ⟨⟨(1 : Int32), (), rfl, ⟨rfl, (by decide)⟩, by rw [ht]; exact hP9, va_K.moved hW.alike hK9, hD9⟩, hS.F ht⟩) hS.2.2 (zat zrX7_opens_0_ok 16 rfl)
    · have h := (if_pos c14).symm.trans h
      refine lv_aload_n hx hb (zat zrX7_opens_0_ok 9 rfl) rfl (lv_at hl 0 rfl) ?_
      refine lv_bipush (v := 6) hx hb (zat zrX7_opens_0_ok 10 rfl) (by decide) ?_
      obtain ⟨o20, eo20⟩ : ∃ o, o = f_X7_fail (6 : Int32) r_r := ⟨_, rfl⟩
      have h := nm_of h o20 eo20
      refine ck_i (wc := (bX7 a0 ur kr r_r [])) (wr := (bX6 a1 up kp p_p [])) hP hD hK hS hA [0, 1, 2, 3] [4, 5, 6, 7, 8, 9, 10, 11, 12, 13] rfl rfl (by decide) (by decide) (by decide) (fun hPc hDc => (va_runV (As := [.int 6]) (rest := []) ⟨hx, hb, hml, hown, hts⟩ (kfX7_fail l dC dI a0 (6 : Int32) ur kr r_r s.heap.size o20 eo20.symm) (cwV 1 hts gfX7_opens_1 rfl rfl rfl (by decide +kernel) ⟨(Nat.le_of_ble_eq_true rfl), (Nat.le_of_ble_eq_true rfl)⟩) (PV hPc (hK.sub (tys' := (tX7 kr ([]))) [0, 1, 2] rfl) hDc hN 0 rfl rfl) rfl rfl hl.1 rfl (lv_room (Nat.le_of_ble_eq_true rfl)) (zat zrX7_opens_0_ok 11 rfl) ⟨(Nat.le_of_ble_eq_true rfl), (Nat.le_of_ble_eq_true rfl)⟩)) (fun r20 _ H locs hw hP hD _ hS => ?_)
      obtain ⟨hw, br20⟩ := hw
      obtain rfl := hw
      obtain ⟨hP, hD⟩ := pd_mk (bX6 a1 up kp p_p (bX7 a0 ur kr o20 [])) hP hD
      obtain rfl := Option.some.inj h
      obtain ⟨hP9, hD9⟩ := pd_sub (bX7 a0 ur kr o20 (bX6 a1 up kp p_p [])) [10, 11, 12, 13, 0, 1, 2, 3, 4, 5, 6, 7, 8, 9] hP hD (by decide) rfl
      have hK9 := hK.sub (tys' := []) [] rfl
      rw [hQQ]
      exact W.zret (v := (0 : Int32)) hx hb hr rfl (fun t ht hW => ⟨⟨(0 : Int32), (), rfl, ⟨rfl, (by decide)⟩, by rw [ht]; exact hP9, va_K.moved hW.alike hK9, hD9⟩, hS.F ht⟩) hS.2.2 (zat zrX7_opens_0_ok 12 rfl)
  · have h := (if_neg c1).symm.trans h
    refine lv_aload_n hx hb (zat zrX7_opens_0_ok 2 rfl) rfl (lv_at hl 0 rfl) ?_
    refine lv_iload_n hx hb (zat zrX7_opens_0_ok 3 rfl) rfl (lv_at hl 2 rfl) ?_
    obtain ⟨o6, eo6⟩ : ∃ o, o = f_X7_fail k2 r_r := ⟨_, rfl⟩
    have h := nm_of h o6 eo6
    refine ck_i (wc := (bX7 a0 ur kr r_r [])) (wr := (bX6 a1 up kp p_p [])) hP hD hK hS hA [0, 1, 2, 3] [4, 5, 6, 7, 8, 9, 10, 11, 12, 13] rfl rfl (by decide) (by decide) (by decide) (fun hPc hDc => (va_runV (As := [.int k2]) (rest := []) ⟨hx, hb, hml, hown, hts⟩ (kfX7_fail l dC dI a0 k2 ur kr r_r s.heap.size o6 eo6.symm) (cwV 1 hts gfX7_opens_1 rfl rfl rfl (by decide +kernel) ⟨(Nat.le_of_ble_eq_true rfl), (Nat.le_of_ble_eq_true rfl)⟩) (PV hPc (hK.sub (tys' := (tX7 kr ([]))) [0, 1, 2] rfl) hDc hN 0 rfl rfl) rfl rfl hl.1 rfl (lv_room (Nat.le_of_ble_eq_true rfl)) (zat zrX7_opens_0_ok 4 rfl) ⟨(Nat.le_of_ble_eq_true rfl), (Nat.le_of_ble_eq_true rfl)⟩)) (fun r6 _ H locs hw hP hD _ hS => ?_)
    obtain ⟨hw, br6⟩ := hw
    obtain rfl := hw
    obtain ⟨hP, hD⟩ := pd_mk (bX6 a1 up kp p_p (bX7 a0 ur kr o6 [])) hP hD
    obtain rfl := Option.some.inj h
    obtain ⟨hP9, hD9⟩ := pd_sub (bX7 a0 ur kr o6 (bX6 a1 up kp p_p [])) [10, 11, 12, 13, 0, 1, 2, 3, 4, 5, 6, 7, 8, 9] hP hD (by decide) rfl
    have hK9 := hK.sub (tys' := []) [] rfl
    rw [hQQ]
    exact W.zret (v := (0 : Int32)) hx hb hr rfl (fun t ht hW => ⟨⟨(0 : Int32), (), rfl, ⟨rfl, (by decide)⟩, by rw [ht]; exact hP9, va_K.moved hW.alike hK9, hD9⟩, hS.F ht⟩) hS.2.2 (zat zrX7_opens_0_ok 5 rfl)
noncomputable def zrX7_readPier_0 : List ZR := zc 0 true (.aload_n 0) 1 (zc 1 true (.invokevirtual 62) 3 (zc 4 true (.aload_n 0) 1 (zc 5 true (.ldc 129) 2 (zc 7 true (.invokevirtual 130) 3 (zc 10 true (.ifCond .eq 13) 3 (zc 13 true (.aload_n 0) 1 (zc 14 true (.iconst 2) 1 (zc 15 true (.bipush 8) 2 (zc 17 true (.invokevirtual 133) 3 (zc 20 true (.ifCond .ne 5) 3 (zc 23 true (.iconst 0) 1 (zc 24 true (.ireturn) 1 (zc 25 true (.aload_n 1) 1 (zc 26 true (.aload_n 0) 1 (zc 27 true (.getfield 31) 3 (zc 30 true (.putfield 82) 3 (zc 33 true (.aload_n 0) 1 (zc 34 true (.ldc 137) 2 (zc 36 true (.invokevirtual 130) 3 (zc 39 true (.ifCond .eq 13) 3 (zc 42 true (.aload_n 0) 1 (zc 43 true (.iconst 1) 1 (zc 44 true (.bipush 9) 2 (zc 46 true (.invokevirtual 133) 3 (zc 49 true (.ifCond .ne 5) 3 (zc 52 true (.iconst 0) 1 (zc 53 true (.ireturn) 1 (zc 54 true (.aload_n 1) 1 (zc 55 true (.aload_n 0) 1 (zc 56 true (.getfield 31) 3 (zc 59 true (.putfield 139) 3 (zc 62 true (.aload_n 0) 1 (zc 63 true (.ldc 141) 2 (zc 65 true (.invokevirtual 130) 3 (zc 68 true (.ifCond .eq 13) 3 (zc 71 true (.aload_n 0) 1 (zc 72 true (.iconst 0) 1 (zc 73 true (.bipush 60) 2 (zc 75 true (.invokevirtual 133) 3 (zc 78 true (.ifCond .ne 5) 3 (zc 81 true (.iconst 0) 1 (zc 82 true (.ireturn) 1 (zc 83 true (.aload_n 1) 1 (zc 84 true (.aload_n 0) 1 (zc 85 true (.getfield 31) 3 (zc 88 true (.putfield 143) 3 (zc 91 true (.aload_n 0) 1 (zc 92 true (.ldc 146) 2 (zc 94 true (.invokevirtual 130) 3 (zc 97 true (.ifCond .eq 16) 3 (zc 100 true (.aload_n 0) 1 (zc 101 true (.aload_n 1) 1 (zc 102 true (.getfield 143) 3 (zc 105 true (.bipush 60) 2 (zc 107 true (.invokevirtual 133) 3 (zc 110 true (.ifCond .ne 5) 3 (zc 113 true (.iconst 0) 1 (zc 114 true (.ireturn) 1 (zc 115 true (.aload_n 1) 1 (zc 116 true (.aload_n 0) 1 (zc 117 true (.getfield 31) 3 (zc 120 true (.putfield 148) 3 (zc 123 true (.iconst 1) 1 ([]))))))))))))))))))))))))))))))))))))))))))))))))))))))))))))))))
theorem zrX7_readPier_0_ok : zck 0 ((zby cX7_readPier).drop 0) zrX7_readPier_0 = true := by decide +kernel
noncomputable def zrX7_readPier_1 : List ZR := zc 124 true (.ireturn) 1 ([])
theorem zrX7_readPier_1_ok : zck 124 ((zby cX7_readPier).drop 124) zrX7_readPier_1 = true := by decide +kernel
def vfX7_readPier : List Cond := List.cons (.code yX7_readPier cX7_readPier 2 (some .boolean)) (apW [.methodLink RX7 62 yX7_advance, .instanceMethod yX7_advance, .selects RX7 yX7_advance yX7_advance, .initialized RX7, .methodLink RX7 130 yX7_takeWord, .instanceMethod yX7_takeWord, .selects RX7 yX7_takeWord yX7_takeWord, .methodLink RX7 133 yX7_takeWhole, .instanceMethod yX7_takeWhole, .selects RX7 yX7_takeWhole yX7_takeWhole, .fieldLink RX7 31 "HookPier$Reader" "value" "I", .fieldLink RX7 82 "HookPier$Plan" "spots" "I", .fieldLink RX7 139 "HookPier$Plan" "deep" "I", .fieldLink RX7 143 "HookPier$Plan" "closeFrom" "I", .fieldLink RX7 148 "HookPier$Plan" "closeTo" "I"] (apW wsX70 (apW wsX60 (apW vfX7_advance (apW vfX7_takeWord (vfX7_takeWhole))))))
theorem ifX7_readPier_X7 : ∀ w ∈ wsX70, w ∈ vfX7_readPier := fun _ h => (List.mem_cons_of_mem _ (List.mem_append_right _ (List.mem_append_left _ h)))
theorem ifX7_readPier_X6 : ∀ w ∈ wsX60, w ∈ vfX7_readPier := fun _ h => (List.mem_cons_of_mem _ (List.mem_append_right _ (List.mem_append_right _ (List.mem_append_left _ h))))
theorem qfX7_readPier : Good vfX7_readPier := gd_cons (by decide +kernel) (gd_app (gd_dec (by decide +kernel) : Good [.methodLink RX7 62 yX7_advance, .instanceMethod yX7_advance, .selects RX7 yX7_advance yX7_advance, .initialized RX7, .methodLink RX7 130 yX7_takeWord, .instanceMethod yX7_takeWord, .selects RX7 yX7_takeWord yX7_takeWord, .methodLink RX7 133 yX7_takeWhole, .instanceMethod yX7_takeWhole, .selects RX7 yX7_takeWhole yX7_takeWhole, .fieldLink RX7 31 "HookPier$Reader" "value" "I", .fieldLink RX7 82 "HookPier$Plan" "spots" "I", .fieldLink RX7 139 "HookPier$Plan" "deep" "I", .fieldLink RX7 143 "HookPier$Plan" "closeFrom" "I", .fieldLink RX7 148 "HookPier$Plan" "closeTo" "I"]) (gd_app qsX7 (gd_app qsX6 (gd_app qfX7_advance (gd_app qfX7_takeWord qfX7_takeWhole)))))
theorem gfX7_readPier_0 : GoodIn vfX7_readPier (wsV RX7 62 RX7 yX7_advance vfX7_advance) := goodIn_app (goodIn_r [.methodLink RX7 62 yX7_advance, .instanceMethod yX7_advance, .selects RX7 yX7_advance yX7_advance, .initialized RX7] [1, 2, 3, 4] rfl (by decide +kernel)) (goodIn_m (fun _ h => (List.mem_cons_of_mem _ (List.mem_append_right _ (List.mem_append_right _ (List.mem_append_right _ (List.mem_append_left _ h)))))) qfX7_advance)
theorem gfX7_readPier_1 : GoodIn vfX7_readPier (wsV RX7 130 RX7 yX7_takeWord vfX7_takeWord) := goodIn_app (goodIn_r [.methodLink RX7 130 yX7_takeWord, .instanceMethod yX7_takeWord, .selects RX7 yX7_takeWord yX7_takeWord, .initialized RX7] [5, 6, 7, 4] rfl (by decide +kernel)) (goodIn_m (fun _ h => (List.mem_cons_of_mem _ (List.mem_append_right _ (List.mem_append_right _ (List.mem_append_right _ (List.mem_append_right _ (List.mem_append_left _ h))))))) qfX7_takeWord)
theorem gfX7_readPier_2 : GoodIn vfX7_readPier (wsV RX7 133 RX7 yX7_takeWhole vfX7_takeWhole) := goodIn_app (goodIn_r [.methodLink RX7 133 yX7_takeWhole, .instanceMethod yX7_takeWhole, .selects RX7 yX7_takeWhole yX7_takeWhole, .initialized RX7] [8, 9, 10, 4] rfl (by decide +kernel)) (goodIn_m (fun _ h => (List.mem_cons_of_mem _ (List.mem_append_right _ (List.mem_append_right _ (List.mem_append_right _ (List.mem_append_right _ (List.mem_append_right _ h))))))) qfX7_takeWhole)
set_option maxHeartbeats 2000000 in
set_option maxRecDepth 100000 in
theorem kfX7_readPier (l : Launch) (dC : Nat → ClassId) (dI : Nat → Nat → Nat) (a0 : Nat) (a1 : Nat) (ur : Nat → Nat) (kr : Nat → ClassId) (up : Nat → Nat) (kp : Nat → ClassId) (r_r : TX7_r) (p_p : TX6_p) (sz : Nat) (B : Nat) (out : (Int32 × TX7_r × TX6_p)) (h : f_X7_readPier r_r p_p = some out) : Met l yX7_readPier vfX7_readPier ({ frames := 6, cells := 0, slots := 0, locals := 128 }) (PF (dC, dI) B [.ref a0, .ref a1] sz (bX7 a0 ur kr r_r (bX6 a1 up kp p_p [])) (tX7 kr (tX6 kp ([]))) []) (va_Qi (S := Unit) (fun (r : Int32) _ => r = out.1 ∧ (0 ≤ r.toInt ∧ r.toInt ≤ 1)) (fun _ t => BC (dC, dI) (va_A (bX7 a0 ur kr r_r (bX6 a1 up kp p_p [])) sz) (bX7 a0 ur kr out.2.1 (bX6 a1 up kp out.2.2 [])) [] t) (va_A (bX7 a0 ur kr r_r (bX6 a1 up kp p_p [])) sz)) 0 0 (va_A (bX7 a0 ur kr r_r (bX6 a1 up kp p_p [])) sz) := by
  refine Met.ofW (cc := cX7_readPier) (maxL := 2) (ret := (some .boolean)) (by decide) rfl ?_
  intro p e s m args below meth c s₁ B0 hml hv
  obtain ⟨rfl, hsz, hP, hK, hD0, hN, hBs, hE, hX⟩ := hv
  have hBA := PF_reg hD0 hBs
  have hx := B0.exec
  have hb := B0.bytes
  have hr := B0.returns
  have hts := atoms_spec (ws := vfX7_readPier) B0.pre
  have hown : s.vm.findClass RX7 = some m.cls := findClass_of_methodNamed B0.named
  have hlocks := B0.notSynchronized
  subst hsz
  have hD := hD0.self (sz := s.heap.size)
  generalize hAe : va_A (bX7 a0 ur kr r_r (bX6 a1 up kp p_p [])) s.heap.size = A at hD hBA ⊢
  have hA : ∀ q : Nat, s.heap.size ≤ q → A q := fun q h => by rw [← hAe]; exact Or.inr h
  have hS : va_S A s.heap s.heap [] := va_S.rf
  have hP : va_P (dC, dI) vwCl (bX7 a0 ur kr r_r (bX6 a1 up kp p_p [])) s.heap := hP
  have hl := lv_entry ([.ref a0, .ref a1]) (n := 2) (Nat.le_of_ble_eq_true rfl)
  rw [lg_entry_eq]
  generalize (lg_sl ([.ref a0, .ref a1]) ++ List.replicate (2 - (lg_sl ([.ref a0, .ref a1])).length) Slot.unset).toArray = ls at hl ⊢
  have hl : lv_has ls 2 [(0, .ref a0), (1, .ref a1)] := hl
  have hB : RB B s A := ⟨hBA, hBs⟩
  refine W_q (fun QQ hQQ => ?_)
  rw [f_X7_readPier] at h
  refine lv_aload_n hx hb (zat zrX7_readPier_0_ok 0 rfl) rfl (lv_at hl 0 rfl) ?_
  obtain ⟨o1, eo1, h⟩ := bd_of h
  refine ck_v (wc := (bX7 a0 ur kr r_r [])) (wr := (bX6 a1 up kp p_p [])) hP hD hK hS hA [0, 1, 2, 3] [4, 5, 6, 7, 8, 9, 10, 11, 12, 13] rfl rfl (by decide) (by decide) (by decide) (fun hPc hDc => (va_runV (As := []) (rest := []) ⟨hx, hb, hml, hown, hts⟩ (kfX7_advance l dC dI a0 ur kr r_r s.heap.size o1 eo1) (cwV 0 hts gfX7_readPier_0 rfl rfl rfl (by decide +kernel) ⟨(Nat.le_of_ble_eq_true rfl), (Nat.le_of_ble_eq_true rfl)⟩) (PV hPc (hK.sub (tys' := (tX7 kr ([]))) [0, 1, 2] rfl) hDc hN 0 rfl rfl) rfl rfl hl.1 rfl (lv_room (Nat.le_of_ble_eq_true rfl)) (zat zrX7_readPier_0_ok 1 rfl) ⟨(Nat.le_of_ble_eq_true rfl), (Nat.le_of_ble_eq_true rfl)⟩)) (fun _ H locs hw hP hD _ hS => ?_)
  obtain ⟨hP, hD⟩ := pd_mk (bX6 a1 up kp p_p (bX7 a0 ur kr o1 [])) hP hD
  refine lv_aload_n hx hb (zat zrX7_readPier_0_ok 2 rfl) rfl (lv_at hl 0 rfl) ?_
  obtain ⟨s5, hs5, xs5⟩ := hE.1 (RX7, 129, "spots", tx_spots) (List.mem_of_getElem? (i := 1) rfl)
  refine va_ldcS hx hb hown hs5 (zat zrX7_readPier_0_ok 3 rfl) ?_
  obtain ⟨o7, eo7, h⟩ := bd_of h
  refine ck_i (wc := (bX7 a0 ur kr o1 [])) (wr := (bX6 a1 up kp p_p [])) hP hD hK hS hA [10, 11, 12, 13] [0, 1, 2, 3, 4, 5, 6, 7, 8, 9] rfl rfl (by decide) (by decide) (by decide) (fun hPc hDc => (va_runV (As := [.ref s5]) (rest := []) ⟨hx, hb, hml, hown, hts⟩ (kfX7_takeWord l dC dI a0 s5 tx_spots ur kr o1 H.size B o7 eo7) (cwV 1 hts gfX7_readPier_1 rfl rfl rfl (by decide +kernel) ⟨(Nat.le_of_ble_eq_true rfl), (Nat.le_of_ble_eq_true rfl)⟩) (PVF hPc (hK.sub (tys' := (tX7 kr ([]))) [0, 1, 2] rfl) hDc hN hS hB hE (S1c xs5 S1n) 0 rfl rfl) rfl rfl hl.1 rfl (lv_room (Nat.le_of_ble_eq_true rfl)) (zat zrX7_readPier_0_ok 4 rfl) ⟨(Nat.le_of_ble_eq_true rfl), (Nat.le_of_ble_eq_true rfl)⟩)) (fun r7 _ H locs hw hP hD _ hS => ?_)
  obtain ⟨hw, br7⟩ := hw
  obtain rfl := hw
  obtain ⟨hP, hD⟩ := pd_mk (bX6 a1 up kp p_p (bX7 a0 ur kr o7.2 [])) hP hD
  refine lv_if_eq (tgt := 23) hx hb (zat zrX7_readPier_0_ok 5 rfl) (by decide) (fun c10 => ?_) (fun c10 => ?_)
  · have h := (if_pos c10).symm.trans h
    refine lv_iconst (v := 0) hx hb (zat zrX7_readPier_0_ok 11 rfl) (by decide) ?_
    obtain rfl := Option.some.inj h
    obtain ⟨hP9, hD9⟩ := pd_sub (bX7 a0 ur kr o7.2 (bX6 a1 up kp p_p [])) [10, 11, 12, 13, 0, 1, 2, 3, 4, 5, 6, 7, 8, 9] hP hD (by decide) rfl
    have hK9 := hK.sub (tys' := []) [] rfl
    rw [hQQ]
    exact W.zret (v := (0 : Int32)) hx hb hr rfl (fun t ht hW => ⟨⟨(0 : Int32), (), rfl, ⟨rfl, (by decide)⟩, by rw [ht]; exact hP9, va_K.moved hW.alike hK9, hD9⟩, hS.F ht⟩) hS.2.2 (zat zrX7_readPier_0_ok 12 rfl)
  · have h := (if_neg c10).symm.trans h
    refine lv_aload_n hx hb (zat zrX7_readPier_0_ok 6 rfl) rfl (lv_at hl 0 rfl) ?_
    refine lv_iconst (v := 2) hx hb (zat zrX7_readPier_0_ok 7 rfl) (by decide) ?_
    refine lv_bipush (v := 8) hx hb (zat zrX7_readPier_0_ok 8 rfl) (by decide) ?_
    obtain ⟨o17, eo17, h⟩ := bd_of h
    refine ck_i (wc := (bX7 a0 ur kr o7.2 [])) (wr := (bX6 a1 up kp p_p [])) hP hD hK hS hA [10, 11, 12, 13] [0, 1, 2, 3, 4, 5, 6, 7, 8, 9] rfl rfl (by decide) (by decide) (by decide) (fun hPc hDc => (va_runV (As := [.int 2, .int 8]) (rest := []) ⟨hx, hb, hml, hown, hts⟩ (kfX7_takeWhole l dC dI a0 (2 : Int32) (8 : Int32) ur kr o7.2 H.size o17 eo17) (cwV 2 hts gfX7_readPier_2 rfl rfl rfl (by decide +kernel) ⟨(Nat.le_of_ble_eq_true rfl), (Nat.le_of_ble_eq_true rfl)⟩) (PV hPc (hK.sub (tys' := (tX7 kr ([]))) [0, 1, 2] rfl) hDc hN 0 rfl rfl) rfl rfl hl.1 rfl (lv_room (Nat.le_of_ble_eq_true rfl)) (zat zrX7_readPier_0_ok 9 rfl) ⟨(Nat.le_of_ble_eq_true rfl), (Nat.le_of_ble_eq_true rfl)⟩)) (fun r17 _ H locs hw hP hD _ hS => ?_)
    obtain ⟨hw, br17⟩ := hw
    obtain rfl := hw
    obtain ⟨hP, hD⟩ := pd_mk (bX6 a1 up kp p_p (bX7 a0 ur kr o17.2 [])) hP hD
    refine lv_if_ne (tgt := 25) hx hb (zat zrX7_readPier_0_ok 10 rfl) (by decide) (fun c20 => ?_) (fun c20 => ?_)
    · have h := (if_neg c20).symm.trans h
      refine lv_aload_n hx hb (zat zrX7_readPier_0_ok 13 rfl) rfl (lv_at hl 1 rfl) ?_
      refine lv_aload_n hx hb (zat zrX7_readPier_0_ok 14 rfl) rfl (lv_at hl 0 rfl) ?_
      refine va_get (D := (dC, dI)) (ci := 5) (v := .int o17.2.2.2.2.2.2.2.1) (C := RX7) (T := TX7) (N := 12) hx hb hts ifX7_readPier_X7 hown hK hP 10 rfl rfl 6 (by decide) (hts (.fieldLink RX7 31 "HookPier$Reader" "value" "I") (List.mem_of_getElem? (i := 11) rfl)) (fun _ h9 => h9) rfl (zat zrX7_readPier_0_ok 15 rfl) ?_
      refine va_put (D := (dC, dI)) (ci := 4) (v := .int o17.2.2.2.2.2.2.2.1) (ty := .int) (C := RX6) (T := TX6) (N := 18) hx hb hts ifX7_readPier_X6 tyX6 tyX6_ok nmX6 hown hK hP hD hS 0 rfl rfl 0 (by decide) (hts (.fieldLink RX7 82 "HookPier$Plan" "spots" "I") (List.mem_of_getElem? (i := 12) rfl)) (fun _ h9 => h9) rfl (by decide +kernel) rfl rfl (Nat.le_of_ble_eq_true rfl) (zat zrX7_readPier_0_ok 16 rfl) (fun H locs hP hD hS => ?_)
      obtain ⟨hP, hD⟩ := pd_mk (bX6 a1 up kp (o17.2.2.2.2.2.2.2.1, p_p.2) (bX7 a0 ur kr o17.2 [])) hP hD
      refine lv_aload_n hx hb (zat zrX7_readPier_0_ok 17 rfl) rfl (lv_at hl 0 rfl) ?_
      obtain ⟨s34, hs34, xs34⟩ := hE.1 (RX7, 137, "deep", tx_deep) (List.mem_of_getElem? (i := 2) rfl)
      refine va_ldcS hx hb hown hs34 (zat zrX7_readPier_0_ok 18 rfl) ?_
      obtain ⟨o36, eo36, h⟩ := bd_of h
      refine ck_i (wc := (bX7 a0 ur kr o17.2 [])) (wr := (bX6 a1 up kp (o17.2.2.2.2.2.2.2.1, p_p.2) [])) hP hD hK hS hA [10, 11, 12, 13] [0, 1, 2, 3, 4, 5, 6, 7, 8, 9] rfl rfl (by decide) (by decide) (by decide) (fun hPc hDc => (va_runV (As := [.ref s34]) (rest := []) ⟨hx, hb, hml, hown, hts⟩ (kfX7_takeWord l dC dI a0 s34 tx_deep ur kr o17.2 H.size B o36 eo36) (cwV 1 hts gfX7_readPier_1 rfl rfl rfl (by decide +kernel) ⟨(Nat.le_of_ble_eq_true rfl), (Nat.le_of_ble_eq_true rfl)⟩) (PVF hPc (hK.sub (tys' := (tX7 kr ([]))) [0, 1, 2] rfl) hDc hN hS hB hE (S1c xs34 S1n) 0 rfl rfl) rfl rfl hl.1 rfl (lv_room (Nat.le_of_ble_eq_true rfl)) (zat zrX7_readPier_0_ok 19 rfl) ⟨(Nat.le_of_ble_eq_true rfl), (Nat.le_of_ble_eq_true rfl)⟩)) (fun r36 _ H locs hw hP hD _ hS => ?_)
      obtain ⟨hw, br36⟩ := hw
      obtain rfl := hw
      obtain ⟨hP, hD⟩ := pd_mk (bX6 a1 up kp (o17.2.2.2.2.2.2.2.1, p_p.2) (bX7 a0 ur kr o36.2 [])) hP hD
      refine lv_if_eq (tgt := 52) hx hb (zat zrX7_readPier_0_ok 20 rfl) (by decide) (fun c39 => ?_) (fun c39 => ?_)
      · have h := (if_pos c39).symm.trans h
        refine lv_iconst (v := 0) hx hb (zat zrX7_readPier_0_ok 26 rfl) (by decide) ?_
        obtain rfl := Option.some.inj h
        obtain ⟨hP9, hD9⟩ := pd_sub (bX7 a0 ur kr o36.2 (bX6 a1 up kp (o17.2.2.2.2.2.2.2.1, p_p.2) [])) [10, 11, 12, 13, 0, 1, 2, 3, 4, 5, 6, 7, 8, 9] hP hD (by decide) rfl
        have hK9 := hK.sub (tys' := []) [] rfl
        rw [hQQ]
        exact W.zret (v := (0 : Int32)) hx hb hr rfl (fun t ht hW => ⟨⟨(0 : Int32), (), rfl, ⟨rfl, (by decide)⟩, by rw [ht]; exact hP9, va_K.moved hW.alike hK9, hD9⟩, hS.F ht⟩) hS.2.2 (zat zrX7_readPier_0_ok 27 rfl)
      · have h := (if_neg c39).symm.trans h
        refine lv_aload_n hx hb (zat zrX7_readPier_0_ok 21 rfl) rfl (lv_at hl 0 rfl) ?_
        refine lv_iconst (v := 1) hx hb (zat zrX7_readPier_0_ok 22 rfl) (by decide) ?_
        refine lv_bipush (v := 9) hx hb (zat zrX7_readPier_0_ok 23 rfl) (by decide) ?_
        obtain ⟨o46, eo46, h⟩ := bd_of h
        refine ck_i (wc := (bX7 a0 ur kr o36.2 [])) (wr := (bX6 a1 up kp (o17.2.2.2.2.2.2.2.1, p_p.2) [])) hP hD hK hS hA [10, 11, 12, 13] [0, 1, 2, 3, 4, 5, 6, 7, 8, 9] rfl rfl (by decide) (by decide) (by decide) (fun hPc hDc => (va_runV (As := [.int 1, .int 9]) (rest := []) ⟨hx, hb, hml, hown, hts⟩ (kfX7_takeWhole l dC dI a0 (1 : Int32) (9 : Int32) ur kr o36.2 H.size o46 eo46) (cwV 2 hts gfX7_readPier_2 rfl rfl rfl (by decide +kernel) ⟨(Nat.le_of_ble_eq_true rfl), (Nat.le_of_ble_eq_true rfl)⟩) (PV hPc (hK.sub (tys' := (tX7 kr ([]))) [0, 1, 2] rfl) hDc hN 0 rfl rfl) rfl rfl hl.1 rfl (lv_room (Nat.le_of_ble_eq_true rfl)) (zat zrX7_readPier_0_ok 24 rfl) ⟨(Nat.le_of_ble_eq_true rfl), (Nat.le_of_ble_eq_true rfl)⟩)) (fun r46 _ H locs hw hP hD _ hS => ?_)
        obtain ⟨hw, br46⟩ := hw
        obtain rfl := hw
        obtain ⟨hP, hD⟩ := pd_mk (bX6 a1 up kp (o17.2.2.2.2.2.2.2.1, p_p.2) (bX7 a0 ur kr o46.2 [])) hP hD
        refine lv_if_ne (tgt := 54) hx hb (zat zrX7_readPier_0_ok 25 rfl) (by decide) (fun c49 => ?_) (fun c49 => ?_)
        · have h := (if_neg c49).symm.trans h
          refine lv_aload_n hx hb (zat zrX7_readPier_0_ok 28 rfl) rfl (lv_at hl 1 rfl) ?_
          refine lv_aload_n hx hb (zat zrX7_readPier_0_ok 29 rfl) rfl (lv_at hl 0 rfl) ?_
          refine va_get (D := (dC, dI)) (ci := 5) (v := .int o46.2.2.2.2.2.2.2.1) (C := RX7) (T := TX7) (N := 12) hx hb hts ifX7_readPier_X7 hown hK hP 10 rfl rfl 6 (by decide) (hts (.fieldLink RX7 31 "HookPier$Reader" "value" "I") (List.mem_of_getElem? (i := 11) rfl)) (fun _ h9 => h9) rfl (zat zrX7_readPier_0_ok 30 rfl) ?_
          refine va_put (D := (dC, dI)) (ci := 4) (v := .int o46.2.2.2.2.2.2.2.1) (ty := .int) (C := RX6) (T := TX6) (N := 18) hx hb hts ifX7_readPier_X6 tyX6 tyX6_ok nmX6 hown hK hP hD hS 0 rfl rfl 1 (by decide) (hts (.fieldLink RX7 139 "HookPier$Plan" "deep" "I") (List.mem_of_getElem? (i := 13) rfl)) (fun _ h9 => h9) rfl (by decide +kernel) rfl rfl (Nat.le_of_ble_eq_true rfl) (zat zrX7_readPier_0_ok 31 rfl) (fun H locs hP hD hS => ?_)
          obtain ⟨hP, hD⟩ := pd_mk (bX6 a1 up kp (o17.2.2.2.2.2.2.2.1, o46.2.2.2.2.2.2.2.1, p_p.2.2) (bX7 a0 ur kr o46.2 [])) hP hD
          refine lv_aload_n hx hb (zat zrX7_readPier_0_ok 32 rfl) rfl (lv_at hl 0 rfl) ?_
          obtain ⟨s63, hs63, xs63⟩ := hE.1 (RX7, 141, "from", tx_from) (List.mem_of_getElem? (i := 3) rfl)
          refine va_ldcS hx hb hown hs63 (zat zrX7_readPier_0_ok 33 rfl) ?_
          obtain ⟨o65, eo65, h⟩ := bd_of h
          refine ck_i (wc := (bX7 a0 ur kr o46.2 [])) (wr := (bX6 a1 up kp (o17.2.2.2.2.2.2.2.1, o46.2.2.2.2.2.2.2.1, p_p.2.2) [])) hP hD hK hS hA [10, 11, 12, 13] [0, 1, 2, 3, 4, 5, 6, 7, 8, 9] rfl rfl (by decide) (by decide) (by decide) (fun hPc hDc => (va_runV (As := [.ref s63]) (rest := []) ⟨hx, hb, hml, hown, hts⟩ (kfX7_takeWord l dC dI a0 s63 tx_from ur kr o46.2 H.size B o65 eo65) (cwV 1 hts gfX7_readPier_1 rfl rfl rfl (by decide +kernel) ⟨(Nat.le_of_ble_eq_true rfl), (Nat.le_of_ble_eq_true rfl)⟩) (PVF hPc (hK.sub (tys' := (tX7 kr ([]))) [0, 1, 2] rfl) hDc hN hS hB hE (S1c xs63 S1n) 0 rfl rfl) rfl rfl hl.1 rfl (lv_room (Nat.le_of_ble_eq_true rfl)) (zat zrX7_readPier_0_ok 34 rfl) ⟨(Nat.le_of_ble_eq_true rfl), (Nat.le_of_ble_eq_true rfl)⟩)) (fun r65 _ H locs hw hP hD _ hS => ?_)
          obtain ⟨hw, br65⟩ := hw
          obtain rfl := hw
          obtain ⟨hP, hD⟩ := pd_mk (bX6 a1 up kp (o17.2.2.2.2.2.2.2.1, o46.2.2.2.2.2.2.2.1, p_p.2.2) (bX7 a0 ur kr o65.2 [])) hP hD
          refine lv_if_eq (tgt := 81) hx hb (zat zrX7_readPier_0_ok 35 rfl) (by decide) (fun c68 => ?_) (fun c68 => ?_)
          · have h := (if_pos c68).symm.trans h
            refine lv_iconst (v := 0) hx hb (zat zrX7_readPier_0_ok 41 rfl) (by decide) ?_
            obtain rfl := Option.some.inj h
            obtain ⟨hP9, hD9⟩ := pd_sub (bX7 a0 ur kr o65.2 (bX6 a1 up kp (o17.2.2.2.2.2.2.2.1, o46.2.2.2.2.2.2.2.1, p_p.2.2) [])) [10, 11, 12, 13, 0, 1, 2, 3, 4, 5, 6, 7, 8, 9] hP hD (by decide) rfl
            have hK9 := hK.sub (tys' := []) [] rfl
            rw [hQQ]
            exact W.zret (v := (0 : Int32)) hx hb hr rfl (fun t ht hW => ⟨⟨(0 : Int32), (), rfl, ⟨rfl, (by decide)⟩, by rw [ht]; exact hP9, va_K.moved hW.alike hK9, hD9⟩, hS.F ht⟩) hS.2.2 (zat zrX7_readPier_0_ok 42 rfl)
          · have h := (if_neg c68).symm.trans h
            refine lv_aload_n hx hb (zat zrX7_readPier_0_ok 36 rfl) rfl (lv_at hl 0 rfl) ?_
            refine lv_iconst (v := 0) hx hb (zat zrX7_readPier_0_ok 37 rfl) (by decide) ?_
            refine lv_bipush (v := 60) hx hb (zat zrX7_readPier_0_ok 38 rfl) (by decide) ?_
            obtain ⟨o75, eo75, h⟩ := bd_of h
            refine ck_i (wc := (bX7 a0 ur kr o65.2 [])) (wr := (bX6 a1 up kp (o17.2.2.2.2.2.2.2.1, o46.2.2.2.2.2.2.2.1, p_p.2.2) [])) hP hD hK hS hA [10, 11, 12, 13] [0, 1, 2, 3, 4, 5, 6, 7, 8, 9] rfl rfl (by decide) (by decide) (by decide) (fun hPc hDc => (va_runV (As := [.int 0, .int 60]) (rest := []) ⟨hx, hb, hml, hown, hts⟩ (kfX7_takeWhole l dC dI a0 (0 : Int32) (60 : Int32) ur kr o65.2 H.size o75 eo75) (cwV 2 hts gfX7_readPier_2 rfl rfl rfl (by decide +kernel) ⟨(Nat.le_of_ble_eq_true rfl), (Nat.le_of_ble_eq_true rfl)⟩) (PV hPc (hK.sub (tys' := (tX7 kr ([]))) [0, 1, 2] rfl) hDc hN 0 rfl rfl) rfl rfl hl.1 rfl (lv_room (Nat.le_of_ble_eq_true rfl)) (zat zrX7_readPier_0_ok 39 rfl) ⟨(Nat.le_of_ble_eq_true rfl), (Nat.le_of_ble_eq_true rfl)⟩)) (fun r75 _ H locs hw hP hD _ hS => ?_)
            obtain ⟨hw, br75⟩ := hw
            obtain rfl := hw
            obtain ⟨hP, hD⟩ := pd_mk (bX6 a1 up kp (o17.2.2.2.2.2.2.2.1, o46.2.2.2.2.2.2.2.1, p_p.2.2) (bX7 a0 ur kr o75.2 [])) hP hD
            refine lv_if_ne (tgt := 83) hx hb (zat zrX7_readPier_0_ok 40 rfl) (by decide) (fun c78 => ?_) (fun c78 => ?_)
            · have h := (if_neg c78).symm.trans h
              refine lv_aload_n hx hb (zat zrX7_readPier_0_ok 43 rfl) rfl (lv_at hl 1 rfl) ?_
              refine lv_aload_n hx hb (zat zrX7_readPier_0_ok 44 rfl) rfl (lv_at hl 0 rfl) ?_
              refine va_get (D := (dC, dI)) (ci := 5) (v := .int o75.2.2.2.2.2.2.2.1) (C := RX7) (T := TX7) (N := 12) hx hb hts ifX7_readPier_X7 hown hK hP 10 rfl rfl 6 (by decide) (hts (.fieldLink RX7 31 "HookPier$Reader" "value" "I") (List.mem_of_getElem? (i := 11) rfl)) (fun _ h9 => h9) rfl (zat zrX7_readPier_0_ok 45 rfl) ?_
              refine va_put (D := (dC, dI)) (ci := 4) (v := .int o75.2.2.2.2.2.2.2.1) (ty := .int) (C := RX6) (T := TX6) (N := 18) hx hb hts ifX7_readPier_X6 tyX6 tyX6_ok nmX6 hown hK hP hD hS 0 rfl rfl 2 (by decide) (hts (.fieldLink RX7 143 "HookPier$Plan" "closeFrom" "I") (List.mem_of_getElem? (i := 14) rfl)) (fun _ h9 => h9) rfl (by decide +kernel) rfl rfl (Nat.le_of_ble_eq_true rfl) (zat zrX7_readPier_0_ok 46 rfl) (fun H locs hP hD hS => ?_)
              obtain ⟨hP, hD⟩ := pd_mk (bX6 a1 up kp (o17.2.2.2.2.2.2.2.1, o46.2.2.2.2.2.2.2.1, o75.2.2.2.2.2.2.2.1, p_p.2.2.2) (bX7 a0 ur kr o75.2 [])) hP hD
              refine lv_aload_n hx hb (zat zrX7_readPier_0_ok 47 rfl) rfl (lv_at hl 0 rfl) ?_
              obtain ⟨s92, hs92, xs92⟩ := hE.1 (RX7, 146, "to", tx_to) (List.mem_of_getElem? (i := 4) rfl)
              refine va_ldcS hx hb hown hs92 (zat zrX7_readPier_0_ok 48 rfl) ?_
              obtain ⟨o94, eo94, h⟩ := bd_of h
              refine ck_i (wc := (bX7 a0 ur kr o75.2 [])) (wr := (bX6 a1 up kp (o17.2.2.2.2.2.2.2.1, o46.2.2.2.2.2.2.2.1, o75.2.2.2.2.2.2.2.1, p_p.2.2.2) [])) hP hD hK hS hA [10, 11, 12, 13] [0, 1, 2, 3, 4, 5, 6, 7, 8, 9] rfl rfl (by decide) (by decide) (by decide) (fun hPc hDc => (va_runV (As := [.ref s92]) (rest := []) ⟨hx, hb, hml, hown, hts⟩ (kfX7_takeWord l dC dI a0 s92 tx_to ur kr o75.2 H.size B o94 eo94) (cwV 1 hts gfX7_readPier_1 rfl rfl rfl (by decide +kernel) ⟨(Nat.le_of_ble_eq_true rfl), (Nat.le_of_ble_eq_true rfl)⟩) (PVF hPc (hK.sub (tys' := (tX7 kr ([]))) [0, 1, 2] rfl) hDc hN hS hB hE (S1c xs92 S1n) 0 rfl rfl) rfl rfl hl.1 rfl (lv_room (Nat.le_of_ble_eq_true rfl)) (zat zrX7_readPier_0_ok 49 rfl) ⟨(Nat.le_of_ble_eq_true rfl), (Nat.le_of_ble_eq_true rfl)⟩)) (fun r94 _ H locs hw hP hD _ hS => ?_)
              obtain ⟨hw, br94⟩ := hw
              obtain rfl := hw
              obtain ⟨hP, hD⟩ := pd_mk (bX6 a1 up kp (o17.2.2.2.2.2.2.2.1, o46.2.2.2.2.2.2.2.1, o75.2.2.2.2.2.2.2.1, p_p.2.2.2) (bX7 a0 ur kr o94.2 [])) hP hD
              refine lv_if_eq (tgt := 113) hx hb (zat zrX7_readPier_0_ok 50 rfl) (by decide) (fun c97 => ?_) (fun c97 => ?_)
              · have h := (if_pos c97).symm.trans h
                refine lv_iconst (v := 0) hx hb (zat zrX7_readPier_0_ok 57 rfl) (by decide) ?_
                obtain rfl := Option.some.inj h
                obtain ⟨hP9, hD9⟩ := pd_sub (bX7 a0 ur kr o94.2 (bX6 a1 up kp (o17.2.2.2.2.2.2.2.1, o46.2.2.2.2.2.2.2.1, o75.2.2.2.2.2.2.2.1, p_p.2.2.2) [])) [10, 11, 12, 13, 0, 1, 2, 3, 4, 5, 6, 7, 8, 9] hP hD (by decide) rfl
                have hK9 := hK.sub (tys' := []) [] rfl
                rw [hQQ]
                exact W.zret (v := (0 : Int32)) hx hb hr rfl (fun t ht hW => ⟨⟨(0 : Int32), (), rfl, ⟨rfl, (by decide)⟩, by rw [ht]; exact hP9, va_K.moved hW.alike hK9, hD9⟩, hS.F ht⟩) hS.2.2 (zat zrX7_readPier_0_ok 58 rfl)
              · have h := (if_neg c97).symm.trans h
                refine lv_aload_n hx hb (zat zrX7_readPier_0_ok 51 rfl) rfl (lv_at hl 0 rfl) ?_
                refine lv_aload_n hx hb (zat zrX7_readPier_0_ok 52 rfl) rfl (lv_at hl 1 rfl) ?_
                refine va_get (D := (dC, dI)) (ci := 4) (v := .int o75.2.2.2.2.2.2.2.1) (C := RX6) (T := TX6) (N := 18) hx hb hts ifX7_readPier_X6 hown hK hP 0 rfl rfl 2 (by decide) (hts (.fieldLink RX7 143 "HookPier$Plan" "closeFrom" "I") (List.mem_of_getElem? (i := 14) rfl)) (fun _ h9 => h9) rfl (zat zrX7_readPier_0_ok 53 rfl) ?_
                refine lv_bipush (v := 60) hx hb (zat zrX7_readPier_0_ok 54 rfl) (by decide) ?_
                obtain ⟨o107, eo107, h⟩ := bd_of h
                refine ck_i (wc := (bX7 a0 ur kr o94.2 [])) (wr := (bX6 a1 up kp (o17.2.2.2.2.2.2.2.1, o46.2.2.2.2.2.2.2.1, o75.2.2.2.2.2.2.2.1, p_p.2.2.2) [])) hP hD hK hS hA [10, 11, 12, 13] [0, 1, 2, 3, 4, 5, 6, 7, 8, 9] rfl rfl (by decide) (by decide) (by decide) (fun hPc hDc => (va_runV (As := [.int o75.2.2.2.2.2.2.2.1, .int 60]) (rest := []) ⟨hx, hb, hml, hown, hts⟩ (kfX7_takeWhole l dC dI a0 o75.2.2.2.2.2.2.2.1 (60 : Int32) ur kr o94.2 H.size o107 eo107) (cwV 2 hts gfX7_readPier_2 rfl rfl rfl (by decide +kernel) ⟨(Nat.le_of_ble_eq_true rfl), (Nat.le_of_ble_eq_true rfl)⟩) (PV hPc (hK.sub (tys' := (tX7 kr ([]))) [0, 1, 2] rfl) hDc hN 0 rfl rfl) rfl rfl hl.1 rfl (lv_room (Nat.le_of_ble_eq_true rfl)) (zat zrX7_readPier_0_ok 55 rfl) ⟨(Nat.le_of_ble_eq_true rfl), (Nat.le_of_ble_eq_true rfl)⟩)) (fun r107 _ H locs hw hP hD _ hS => ?_)
                obtain ⟨hw, br107⟩ := hw
                obtain rfl := hw
                obtain ⟨hP, hD⟩ := pd_mk (bX6 a1 up kp (o17.2.2.2.2.2.2.2.1, o46.2.2.2.2.2.2.2.1, o75.2.2.2.2.2.2.2.1, p_p.2.2.2) (bX7 a0 ur kr o107.2 [])) hP hD
                refine lv_if_ne (tgt := 115) hx hb (zat zrX7_readPier_0_ok 56 rfl) (by decide) (fun c110 => ?_) (fun c110 => ?_)
                · have h := (if_neg c110).symm.trans h
                  refine lv_aload_n hx hb (zat zrX7_readPier_0_ok 59 rfl) rfl (lv_at hl 1 rfl) ?_
                  refine lv_aload_n hx hb (zat zrX7_readPier_0_ok 60 rfl) rfl (lv_at hl 0 rfl) ?_
                  refine va_get (D := (dC, dI)) (ci := 5) (v := .int o107.2.2.2.2.2.2.2.1) (C := RX7) (T := TX7) (N := 12) hx hb hts ifX7_readPier_X7 hown hK hP 10 rfl rfl 6 (by decide) (hts (.fieldLink RX7 31 "HookPier$Reader" "value" "I") (List.mem_of_getElem? (i := 11) rfl)) (fun _ h9 => h9) rfl (zat zrX7_readPier_0_ok 61 rfl) ?_
                  refine va_put (D := (dC, dI)) (ci := 4) (v := .int o107.2.2.2.2.2.2.2.1) (ty := .int) (C := RX6) (T := TX6) (N := 18) hx hb hts ifX7_readPier_X6 tyX6 tyX6_ok nmX6 hown hK hP hD hS 0 rfl rfl 3 (by decide) (hts (.fieldLink RX7 148 "HookPier$Plan" "closeTo" "I") (List.mem_of_getElem? (i := 15) rfl)) (fun _ h9 => h9) rfl (by decide +kernel) rfl rfl (Nat.le_of_ble_eq_true rfl) (zat zrX7_readPier_0_ok 62 rfl) (fun H locs hP hD hS => ?_)
                  obtain ⟨hP, hD⟩ := pd_mk (bX6 a1 up kp (o17.2.2.2.2.2.2.2.1, o46.2.2.2.2.2.2.2.1, o75.2.2.2.2.2.2.2.1, o107.2.2.2.2.2.2.2.1, p_p.2.2.2.2) (bX7 a0 ur kr o107.2 [])) hP hD
                  refine lv_iconst (v := 1) hx hb (zat zrX7_readPier_0_ok 63 rfl) (by decide) ?_
                  obtain rfl := Option.some.inj h
                  obtain ⟨hP9, hD9⟩ := pd_sub (bX7 a0 ur kr o107.2 (bX6 a1 up kp (o17.2.2.2.2.2.2.2.1, o46.2.2.2.2.2.2.2.1, o75.2.2.2.2.2.2.2.1, o107.2.2.2.2.2.2.2.1, p_p.2.2.2.2) [])) [10, 11, 12, 13, 0, 1, 2, 3, 4, 5, 6, 7, 8, 9] hP hD (by decide) rfl
                  have hK9 := hK.sub (tys' := []) [] rfl
                  rw [hQQ]
                  exact W.zret (v := (1 : Int32)) hx hb hr rfl (fun t ht hW => ⟨⟨(1 : Int32), (), rfl, ⟨rfl, (by decide)⟩, by rw [ht]; exact hP9, va_K.moved hW.alike hK9, hD9⟩, hS.F ht⟩) hS.2.2 (zat zrX7_readPier_1_ok 0 rfl)
                · have h := (if_pos c110).symm.trans h
                  refine lv_iconst (v := 0) hx hb (zat zrX7_readPier_0_ok 57 rfl) (by decide) ?_
                  obtain rfl := Option.some.inj h
                  obtain ⟨hP9, hD9⟩ := pd_sub (bX7 a0 ur kr o107.2 (bX6 a1 up kp (o17.2.2.2.2.2.2.2.1, o46.2.2.2.2.2.2.2.1, o75.2.2.2.2.2.2.2.1, p_p.2.2.2) [])) [10, 11, 12, 13, 0, 1, 2, 3, 4, 5, 6, 7, 8, 9] hP hD (by decide) rfl
                  have hK9 := hK.sub (tys' := []) [] rfl
                  rw [hQQ]
                  exact W.zret (v := (0 : Int32)) hx hb hr rfl (fun t ht hW => ⟨⟨(0 : Int32), (), rfl, ⟨rfl, (by decide)⟩, by rw [ht]; exact hP9, va_K.moved hW.alike hK9, hD9⟩, hS.F ht⟩) hS.2.2 (zat zrX7_readPier_0_ok 58 rfl)
            · have h := (if_pos c78).symm.trans h
              refine lv_iconst (v := 0) hx hb (zat zrX7_readPier_0_ok 41 rfl) (by decide) ?_
              obtain rfl := Option.some.inj h
              obtain ⟨hP9, hD9⟩ := pd_sub (bX7 a0 ur kr o75.2 (bX6 a1 up kp (o17.2.2.2.2.2.2.2.1, o46.2.2.2.2.2.2.2.1, p_p.2.2) [])) [10, 11, 12, 13, 0, 1, 2, 3, 4, 5, 6, 7, 8, 9] hP hD (by decide) rfl
              have hK9 := hK.sub (tys' := []) [] rfl
              rw [hQQ]
              exact W.zret (v := (0 : Int32)) hx hb hr rfl (fun t ht hW => ⟨⟨(0 : Int32), (), rfl, ⟨rfl, (by decide)⟩, by rw [ht]; exact hP9, va_K.moved hW.alike hK9, hD9⟩, hS.F ht⟩) hS.2.2 (zat zrX7_readPier_0_ok 42 rfl)
        · have h := (if_pos c49).symm.trans h
          refine lv_iconst (v := 0) hx hb (zat zrX7_readPier_0_ok 26 rfl) (by decide) ?_
          obtain rfl := Option.some.inj h
          obtain ⟨hP9, hD9⟩ := pd_sub (bX7 a0 ur kr o46.2 (bX6 a1 up kp (o17.2.2.2.2.2.2.2.1, p_p.2) [])) [10, 11, 12, 13, 0, 1, 2, 3, 4, 5, 6, 7, 8, 9] hP hD (by decide) rfl
          have hK9 := hK.sub (tys' := []) [] rfl
          rw [hQQ]
          exact W.zret (v := (0 : Int32)) hx hb hr rfl (fun t ht hW => ⟨⟨(0 : Int32), (), rfl, ⟨rfl, (by decide)⟩, by rw [ht]; exact hP9, va_K.moved hW.alike hK9, hD9⟩, hS.F ht⟩) hS.2.2 (zat zrX7_readPier_0_ok 27 rfl)
    · have h := (if_pos c20).symm.trans h
      refine lv_iconst (v := 0) hx hb (zat zrX7_readPier_0_ok 11 rfl) (by decide) ?_
      obtain rfl := Option.some.inj h
      obtain ⟨hP9, hD9⟩ := pd_sub (bX7 a0 ur kr o17.2 (bX6 a1 up kp p_p [])) [10, 11, 12, 13, 0, 1, 2, 3, 4, 5, 6, 7, 8, 9] hP hD (by decide) rfl
      have hK9 := hK.sub (tys' := []) [] rfl
      rw [hQQ]
      exact W.zret (v := (0 : Int32)) hx hb hr rfl (fun t ht hW => ⟨⟨(0 : Int32), (), rfl, ⟨rfl, (by decide)⟩, by rw [ht]; exact hP9, va_K.moved hW.alike hK9, hD9⟩, hS.F ht⟩) hS.2.2 (zat zrX7_readPier_0_ok 12 rfl)
noncomputable def zrX7_readBait_0 : List ZR := zc 0 true (.aload_n 0) 1 (zc 1 true (.aload_n 1) 1 (zc 2 true (.getfield 69) 3 (zc 5 true (.invokevirtual 151) 3 (zc 8 true (.ifCond .ne 5) 3 (zc 11 true (.iconst 0) 1 (zc 12 true (.ireturn) 1 (zc 13 true (.aload_n 1) 1 (zc 14 true (.dup) 1 (zc 15 true (.getfield 69) 3 (zc 18 true (.iconst 1) 1 (zc 19 true (.iadd) 1 (zc 20 true (.putfield 69) 3 (zc 23 true (.iconst 1) 1 (zc 24 true (.ireturn) 1 ([])))))))))))))))
theorem zrX7_readBait_0_ok : zck 0 ((zby cX7_readBait).drop 0) zrX7_readBait_0 = true := by decide +kernel
def vfX7_readBait : List Cond := List.cons (.code yX7_readBait cX7_readBait 2 (some .boolean)) (apW [.fieldLink RX7 69 "HookPier$Plan" "baits" "I", .methodLink RX7 151 yX7_takeNewName, .instanceMethod yX7_takeNewName, .selects RX7 yX7_takeNewName yX7_takeNewName, .initialized RX7] (apW wsX60 (vfX7_takeNewName)))
theorem ifX7_readBait_X6 : ∀ w ∈ wsX60, w ∈ vfX7_readBait := fun _ h => (List.mem_cons_of_mem _ (List.mem_append_right _ (List.mem_append_left _ h)))
theorem qfX7_readBait : Good vfX7_readBait := gd_cons (by decide +kernel) (gd_app (gd_dec (by decide +kernel) : Good [.fieldLink RX7 69 "HookPier$Plan" "baits" "I", .methodLink RX7 151 yX7_takeNewName, .instanceMethod yX7_takeNewName, .selects RX7 yX7_takeNewName yX7_takeNewName, .initialized RX7]) (gd_app qsX6 qfX7_takeNewName))
theorem gfX7_readBait_0 : GoodIn vfX7_readBait (wsV RX7 151 RX7 yX7_takeNewName vfX7_takeNewName) := goodIn_app (goodIn_r [.methodLink RX7 151 yX7_takeNewName, .instanceMethod yX7_takeNewName, .selects RX7 yX7_takeNewName yX7_takeNewName, .initialized RX7] [2, 3, 4, 5] rfl (by decide +kernel)) (goodIn_m (fun _ h => (List.mem_cons_of_mem _ (List.mem_append_right _ (List.mem_append_right _ h)))) qfX7_takeNewName)
set_option maxHeartbeats 2000000 in
set_option maxRecDepth 100000 in
theorem kfX7_readBait (l : Launch) (dC : Nat → ClassId) (dI : Nat → Nat → Nat) (a0 : Nat) (a1 : Nat) (ur : Nat → Nat) (kr : Nat → ClassId) (up : Nat → Nat) (kp : Nat → ClassId) (r_r : TX7_r) (p_p : TX6_p) (sz : Nat) (B : Nat) (out : (Int32 × TX7_r × TX6_p)) (h : f_X7_readBait r_r p_p = some out) : Met l yX7_readBait vfX7_readBait ({ frames := 7, cells := 0, slots := 0, locals := 150 }) (PF (dC, dI) B [.ref a0, .ref a1] sz (bX7 a0 ur kr r_r (bX6 a1 up kp p_p [])) (tX7 kr (tX6 kp ([]))) []) (va_Qi (S := Unit) (fun (r : Int32) _ => r = out.1 ∧ (0 ≤ r.toInt ∧ r.toInt ≤ 1)) (fun _ t => BC (dC, dI) (va_A (bX7 a0 ur kr r_r (bX6 a1 up kp p_p [])) sz) (bX7 a0 ur kr out.2.1 (bX6 a1 up kp out.2.2 [])) [] t) (va_A (bX7 a0 ur kr r_r (bX6 a1 up kp p_p [])) sz)) 0 0 (va_A (bX7 a0 ur kr r_r (bX6 a1 up kp p_p [])) sz) := by
  refine Met.ofW (cc := cX7_readBait) (maxL := 2) (ret := (some .boolean)) (by decide) rfl ?_
  intro p e s m args below meth c s₁ B0 hml hv
  obtain ⟨rfl, hsz, hP, hK, hD0, hN, hBs, hE, hX⟩ := hv
  have hBA := PF_reg hD0 hBs
  have hx := B0.exec
  have hb := B0.bytes
  have hr := B0.returns
  have hts := atoms_spec (ws := vfX7_readBait) B0.pre
  have hown : s.vm.findClass RX7 = some m.cls := findClass_of_methodNamed B0.named
  have hlocks := B0.notSynchronized
  subst hsz
  have hD := hD0.self (sz := s.heap.size)
  generalize hAe : va_A (bX7 a0 ur kr r_r (bX6 a1 up kp p_p [])) s.heap.size = A at hD hBA ⊢
  have hA : ∀ q : Nat, s.heap.size ≤ q → A q := fun q h => by rw [← hAe]; exact Or.inr h
  have hS : va_S A s.heap s.heap [] := va_S.rf
  have hP : va_P (dC, dI) vwCl (bX7 a0 ur kr r_r (bX6 a1 up kp p_p [])) s.heap := hP
  have hl := lv_entry ([.ref a0, .ref a1]) (n := 2) (Nat.le_of_ble_eq_true rfl)
  rw [lg_entry_eq]
  generalize (lg_sl ([.ref a0, .ref a1]) ++ List.replicate (2 - (lg_sl ([.ref a0, .ref a1])).length) Slot.unset).toArray = ls at hl ⊢
  have hl : lv_has ls 2 [(0, .ref a0), (1, .ref a1)] := hl
  have hB : RB B s A := ⟨hBA, hBs⟩
  refine W_q (fun QQ hQQ => ?_)
  rw [f_X7_readBait] at h
  refine lv_aload_n hx hb (zat zrX7_readBait_0_ok 0 rfl) rfl (lv_at hl 0 rfl) ?_
  refine lv_aload_n hx hb (zat zrX7_readBait_0_ok 1 rfl) rfl (lv_at hl 1 rfl) ?_
  refine va_get (D := (dC, dI)) (ci := 4) (v := .int p_p.2.2.2.2.1) (C := RX6) (T := TX6) (N := 18) hx hb hts ifX7_readBait_X6 hown hK hP 4 rfl rfl 4 (by decide) (hts (.fieldLink RX7 69 "HookPier$Plan" "baits" "I") (List.mem_of_getElem? (i := 1) rfl)) (fun _ h9 => h9) rfl (zat zrX7_readBait_0_ok 2 rfl) ?_
  obtain ⟨o5, eo5, h⟩ := bd_of h
  refine ck_i (wc := (bX7 a0 ur kr r_r [])) (wr := (bX6 a1 up kp p_p [])) hP hD hK hS hA [0, 1, 2, 3] [4, 5, 6, 7, 8, 9, 10, 11, 12, 13] rfl rfl (by decide) (by decide) (by decide) (fun hPc hDc => (va_runV (As := [.int p_p.2.2.2.2.1]) (rest := []) ⟨hx, hb, hml, hown, hts⟩ (kfX7_takeNewName l dC dI a0 p_p.2.2.2.2.1 ur kr r_r s.heap.size B o5 eo5) (cwV 1 hts gfX7_readBait_0 rfl rfl rfl (by decide +kernel) ⟨(Nat.le_of_ble_eq_true rfl), (Nat.le_of_ble_eq_true rfl)⟩) (PVF hPc (hK.sub (tys' := (tX7 kr ([]))) [0, 1, 2] rfl) hDc hN hS hB hE S1n 0 rfl rfl) rfl rfl hl.1 rfl (lv_room (Nat.le_of_ble_eq_true rfl)) (zat zrX7_readBait_0_ok 3 rfl) ⟨(Nat.le_of_ble_eq_true rfl), (Nat.le_of_ble_eq_true rfl)⟩)) (fun r5 _ H locs hw hP hD _ hS => ?_)
  obtain ⟨hw, br5⟩ := hw
  obtain rfl := hw
  obtain ⟨hP, hD⟩ := pd_mk (bX6 a1 up kp p_p (bX7 a0 ur kr o5.2 [])) hP hD
  refine lv_if_ne (tgt := 13) hx hb (zat zrX7_readBait_0_ok 4 rfl) (by decide) (fun c8 => ?_) (fun c8 => ?_)
  · have h := (if_neg c8).symm.trans h
    refine lv_aload_n hx hb (zat zrX7_readBait_0_ok 7 rfl) rfl (lv_at hl 1 rfl) ?_
    refine lv_dup hx hb (zat zrX7_readBait_0_ok 8 rfl) rfl ?_
    refine va_get (D := (dC, dI)) (ci := 4) (v := .int p_p.2.2.2.2.1) (C := RX6) (T := TX6) (N := 18) hx hb hts ifX7_readBait_X6 hown hK hP 0 rfl rfl 4 (by decide) (hts (.fieldLink RX7 69 "HookPier$Plan" "baits" "I") (List.mem_of_getElem? (i := 1) rfl)) (fun _ h9 => h9) rfl (zat zrX7_readBait_0_ok 9 rfl) ?_
    refine lv_iconst (v := 1) hx hb (zat zrX7_readBait_0_ok 10 rfl) (by decide) ?_
    refine lv_iadd hx hb (zat zrX7_readBait_0_ok 11 rfl) ?_
    refine va_put (D := (dC, dI)) (ci := 4) (v := .int (p_p.2.2.2.2.1 + (1 : Int32))) (ty := .int) (C := RX6) (T := TX6) (N := 18) hx hb hts ifX7_readBait_X6 tyX6 tyX6_ok nmX6 hown hK hP hD hS 0 rfl rfl 4 (by decide) (hts (.fieldLink RX7 69 "HookPier$Plan" "baits" "I") (List.mem_of_getElem? (i := 1) rfl)) (fun _ h9 => h9) rfl (by decide +kernel) rfl rfl (Nat.le_of_ble_eq_true rfl) (zat zrX7_readBait_0_ok 12 rfl) (fun H locs hP hD hS => ?_)
    obtain ⟨hP, hD⟩ := pd_mk (bX6 a1 up kp (p_p.1, p_p.2.1, p_p.2.2.1, p_p.2.2.2.1, (p_p.2.2.2.2.1 + (1 : Int32)), p_p.2.2.2.2.2) (bX7 a0 ur kr o5.2 [])) hP hD
    refine lv_iconst (v := 1) hx hb (zat zrX7_readBait_0_ok 13 rfl) (by decide) ?_
    obtain rfl := Option.some.inj h
    obtain ⟨hP9, hD9⟩ := pd_sub (bX7 a0 ur kr o5.2 (bX6 a1 up kp (p_p.1, p_p.2.1, p_p.2.2.1, p_p.2.2.2.1, (p_p.2.2.2.2.1 + (1 : Int32)), p_p.2.2.2.2.2) [])) [10, 11, 12, 13, 0, 1, 2, 3, 4, 5, 6, 7, 8, 9] hP hD (by decide) rfl
    have hK9 := hK.sub (tys' := []) [] rfl
    rw [hQQ]
    exact W.zret (v := (1 : Int32)) hx hb hr rfl (fun t ht hW => ⟨⟨(1 : Int32), (), rfl, ⟨rfl, (by decide)⟩, by rw [ht]; exact hP9, va_K.moved hW.alike hK9, hD9⟩, hS.F ht⟩) hS.2.2 (zat zrX7_readBait_0_ok 14 rfl)
  · have h := (if_pos c8).symm.trans h
    refine lv_iconst (v := 0) hx hb (zat zrX7_readBait_0_ok 5 rfl) (by decide) ?_
    obtain rfl := Option.some.inj h
    obtain ⟨hP9, hD9⟩ := pd_sub (bX7 a0 ur kr o5.2 (bX6 a1 up kp p_p [])) [10, 11, 12, 13, 0, 1, 2, 3, 4, 5, 6, 7, 8, 9] hP hD (by decide) rfl
    have hK9 := hK.sub (tys' := []) [] rfl
    rw [hQQ]
    exact W.zret (v := (0 : Int32)) hx hb hr rfl (fun t ht hW => ⟨⟨(0 : Int32), (), rfl, ⟨rfl, (by decide)⟩, by rw [ht]; exact hP9, va_K.moved hW.alike hK9, hD9⟩, hS.F ht⟩) hS.2.2 (zat zrX7_readBait_0_ok 6 rfl)
noncomputable def zrX7_readAsker_0 : List ZR := zc 0 true (.aload_n 0) 1 (zc 1 true (.iconst (-1)) 1 (zc 2 true (.invokevirtual 151) 3 (zc 5 true (.ifCond .eq 21) 3 (zc 8 true (.aload_n 0) 1 (zc 9 true (.ldc 154) 2 (zc 11 true (.invokevirtual 130) 3 (zc 14 true (.ifCond .eq 12) 3 (zc 17 true (.aload_n 0) 1 (zc 18 true (.iconst 0) 1 (zc 19 true (.iconst 3) 1 (zc 20 true (.invokevirtual 133) 3 (zc 23 true (.ifCond .ne 5) 3 (zc 26 true (.iconst 0) 1 (zc 27 true (.ireturn) 1 (zc 28 true (.aload_n 1) 1 (zc 29 true (.getfield 156) 3 (zc 32 true (.aload_n 1) 1 (zc 33 true (.getfield 99) 3 (zc 36 true (.aload_n 0) 1 (zc 37 true (.getfield 31) 3 (zc 40 true (.iastore) 1 (zc 41 true (.aload_n 1) 1 (zc 42 true (.dup) 1 (zc 43 true (.getfield 99) 3 (zc 46 true (.iconst 1) 1 (zc 47 true (.iadd) 1 (zc 48 true (.putfield 99) 3 (zc 51 true (.iconst 1) 1 (zc 52 true (.ireturn) 1 ([]))))))))))))))))))))))))))))))
theorem zrX7_readAsker_0_ok : zck 0 ((zby cX7_readAsker).drop 0) zrX7_readAsker_0 = true := by decide +kernel
def vfX7_readAsker : List Cond := List.cons (.code yX7_readAsker cX7_readAsker 2 (some .boolean)) (apW [.methodLink RX7 151 yX7_takeNewName, .instanceMethod yX7_takeNewName, .selects RX7 yX7_takeNewName yX7_takeNewName, .initialized RX7, .methodLink RX7 130 yX7_takeWord, .instanceMethod yX7_takeWord, .selects RX7 yX7_takeWord yX7_takeWord, .methodLink RX7 133 yX7_takeWhole, .instanceMethod yX7_takeWhole, .selects RX7 yX7_takeWhole yX7_takeWhole, .fieldLink RX7 156 "HookPier$Plan" "reach" "[I", .fieldLink RX7 99 "HookPier$Plan" "askers" "I", .fieldLink RX7 31 "HookPier$Reader" "value" "I"] (apW wsX60 (apW wsX70 (apW vfX7_takeNewName (apW vfX7_takeWord (vfX7_takeWhole))))))
theorem ifX7_readAsker_X6 : ∀ w ∈ wsX60, w ∈ vfX7_readAsker := fun _ h => (List.mem_cons_of_mem _ (List.mem_append_right _ (List.mem_append_left _ h)))
theorem ifX7_readAsker_X7 : ∀ w ∈ wsX70, w ∈ vfX7_readAsker := fun _ h => (List.mem_cons_of_mem _ (List.mem_append_right _ (List.mem_append_right _ (List.mem_append_left _ h))))
theorem qfX7_readAsker : Good vfX7_readAsker := gd_cons (by decide +kernel) (gd_app (gd_dec (by decide +kernel) : Good [.methodLink RX7 151 yX7_takeNewName, .instanceMethod yX7_takeNewName, .selects RX7 yX7_takeNewName yX7_takeNewName, .initialized RX7, .methodLink RX7 130 yX7_takeWord, .instanceMethod yX7_takeWord, .selects RX7 yX7_takeWord yX7_takeWord, .methodLink RX7 133 yX7_takeWhole, .instanceMethod yX7_takeWhole, .selects RX7 yX7_takeWhole yX7_takeWhole, .fieldLink RX7 156 "HookPier$Plan" "reach" "[I", .fieldLink RX7 99 "HookPier$Plan" "askers" "I", .fieldLink RX7 31 "HookPier$Reader" "value" "I"]) (gd_app qsX6 (gd_app qsX7 (gd_app qfX7_takeNewName (gd_app qfX7_takeWord qfX7_takeWhole)))))
theorem gfX7_readAsker_0 : GoodIn vfX7_readAsker (wsV RX7 151 RX7 yX7_takeNewName vfX7_takeNewName) := goodIn_app (goodIn_r [.methodLink RX7 151 yX7_takeNewName, .instanceMethod yX7_takeNewName, .selects RX7 yX7_takeNewName yX7_takeNewName, .initialized RX7] [1, 2, 3, 4] rfl (by decide +kernel)) (goodIn_m (fun _ h => (List.mem_cons_of_mem _ (List.mem_append_right _ (List.mem_append_right _ (List.mem_append_right _ (List.mem_append_left _ h)))))) qfX7_takeNewName)
theorem gfX7_readAsker_1 : GoodIn vfX7_readAsker (wsV RX7 130 RX7 yX7_takeWord vfX7_takeWord) := goodIn_app (goodIn_r [.methodLink RX7 130 yX7_takeWord, .instanceMethod yX7_takeWord, .selects RX7 yX7_takeWord yX7_takeWord, .initialized RX7] [5, 6, 7, 4] rfl (by decide +kernel)) (goodIn_m (fun _ h => (List.mem_cons_of_mem _ (List.mem_append_right _ (List.mem_append_right _ (List.mem_append_right _ (List.mem_append_right _ (List.mem_append_left _ h))))))) qfX7_takeWord)
theorem gfX7_readAsker_2 : GoodIn vfX7_readAsker (wsV RX7 133 RX7 yX7_takeWhole vfX7_takeWhole) := goodIn_app (goodIn_r [.methodLink RX7 133 yX7_takeWhole, .instanceMethod yX7_takeWhole, .selects RX7 yX7_takeWhole yX7_takeWhole, .initialized RX7] [8, 9, 10, 4] rfl (by decide +kernel)) (goodIn_m (fun _ h => (List.mem_cons_of_mem _ (List.mem_append_right _ (List.mem_append_right _ (List.mem_append_right _ (List.mem_append_right _ (List.mem_append_right _ h))))))) qfX7_takeWhole)
set_option maxHeartbeats 2000000 in
set_option maxRecDepth 100000 in
theorem kfX7_readAsker (l : Launch) (dC : Nat → ClassId) (dI : Nat → Nat → Nat) (a0 : Nat) (a1 : Nat) (ur : Nat → Nat) (kr : Nat → ClassId) (up : Nat → Nat) (kp : Nat → ClassId) (r_r : TX7_r) (p_p : TX6_p) (sz : Nat) (B : Nat) (out : (Int32 × TX7_r × TX6_p)) (h : f_X7_readAsker r_r p_p = some out) : Met l yX7_readAsker vfX7_readAsker ({ frames := 7, cells := 0, slots := 0, locals := 150 }) (PF (dC, dI) B [.ref a0, .ref a1] sz (bX7 a0 ur kr r_r (bX6 a1 up kp p_p [])) (tX7 kr (tX6 kp ([]))) []) (va_Qi (S := Unit) (fun (r : Int32) _ => r = out.1 ∧ (0 ≤ r.toInt ∧ r.toInt ≤ 1)) (fun _ t => BC (dC, dI) (va_A (bX7 a0 ur kr r_r (bX6 a1 up kp p_p [])) sz) (bX7 a0 ur kr out.2.1 (bX6 a1 up kp out.2.2 [])) [] t) (va_A (bX7 a0 ur kr r_r (bX6 a1 up kp p_p [])) sz)) 0 0 (va_A (bX7 a0 ur kr r_r (bX6 a1 up kp p_p [])) sz) := by
  refine Met.ofW (cc := cX7_readAsker) (maxL := 2) (ret := (some .boolean)) (by decide) rfl ?_
  intro p e s m args below meth c s₁ B0 hml hv
  obtain ⟨rfl, hsz, hP, hK, hD0, hN, hBs, hE, hX⟩ := hv
  have hBA := PF_reg hD0 hBs
  have hx := B0.exec
  have hb := B0.bytes
  have hr := B0.returns
  have hts := atoms_spec (ws := vfX7_readAsker) B0.pre
  have hown : s.vm.findClass RX7 = some m.cls := findClass_of_methodNamed B0.named
  have hlocks := B0.notSynchronized
  subst hsz
  have hD := hD0.self (sz := s.heap.size)
  generalize hAe : va_A (bX7 a0 ur kr r_r (bX6 a1 up kp p_p [])) s.heap.size = A at hD hBA ⊢
  have hA : ∀ q : Nat, s.heap.size ≤ q → A q := fun q h => by rw [← hAe]; exact Or.inr h
  have hS : va_S A s.heap s.heap [] := va_S.rf
  have hP : va_P (dC, dI) vwCl (bX7 a0 ur kr r_r (bX6 a1 up kp p_p [])) s.heap := hP
  have hl := lv_entry ([.ref a0, .ref a1]) (n := 2) (Nat.le_of_ble_eq_true rfl)
  rw [lg_entry_eq]
  generalize (lg_sl ([.ref a0, .ref a1]) ++ List.replicate (2 - (lg_sl ([.ref a0, .ref a1])).length) Slot.unset).toArray = ls at hl ⊢
  have hl : lv_has ls 2 [(0, .ref a0), (1, .ref a1)] := hl
  have hB : RB B s A := ⟨hBA, hBs⟩
  refine W_q (fun QQ hQQ => ?_)
  rw [f_X7_readAsker] at h
  refine lv_aload_n hx hb (zat zrX7_readAsker_0_ok 0 rfl) rfl (lv_at hl 0 rfl) ?_
  refine lv_iconst (v := (-1)) hx hb (zat zrX7_readAsker_0_ok 1 rfl) (by decide) ?_
  obtain ⟨o2, eo2, h⟩ := bd_of h
  refine ck_i (wc := (bX7 a0 ur kr r_r [])) (wr := (bX6 a1 up kp p_p [])) hP hD hK hS hA [0, 1, 2, 3] [4, 5, 6, 7, 8, 9, 10, 11, 12, 13] rfl rfl (by decide) (by decide) (by decide) (fun hPc hDc => (va_runV (As := [.int (-1)]) (rest := []) ⟨hx, hb, hml, hown, hts⟩ (kfX7_takeNewName l dC dI a0 (-1 : Int32) ur kr r_r s.heap.size B o2 eo2) (cwV 1 hts gfX7_readAsker_0 rfl rfl rfl (by decide +kernel) ⟨(Nat.le_of_ble_eq_true rfl), (Nat.le_of_ble_eq_true rfl)⟩) (PVF hPc (hK.sub (tys' := (tX7 kr ([]))) [0, 1, 2] rfl) hDc hN hS hB hE S1n 0 rfl rfl) rfl rfl hl.1 rfl (lv_room (Nat.le_of_ble_eq_true rfl)) (zat zrX7_readAsker_0_ok 2 rfl) ⟨(Nat.le_of_ble_eq_true rfl), (Nat.le_of_ble_eq_true rfl)⟩)) (fun r2 _ H locs hw hP hD _ hS => ?_)
  obtain ⟨hw, br2⟩ := hw
  obtain rfl := hw
  obtain ⟨hP, hD⟩ := pd_mk (bX6 a1 up kp p_p (bX7 a0 ur kr o2.2 [])) hP hD
  refine lv_if_eq (tgt := 26) hx hb (zat zrX7_readAsker_0_ok 3 rfl) (by decide) (fun c5 => ?_) (fun c5 => ?_)
  · have h := (if_pos c5).symm.trans h
    refine lv_iconst (v := 0) hx hb (zat zrX7_readAsker_0_ok 13 rfl) (by decide) ?_
    obtain rfl := Option.some.inj h
    obtain ⟨hP9, hD9⟩ := pd_sub (bX7 a0 ur kr o2.2 (bX6 a1 up kp p_p [])) [10, 11, 12, 13, 0, 1, 2, 3, 4, 5, 6, 7, 8, 9] hP hD (by decide) rfl
    have hK9 := hK.sub (tys' := []) [] rfl
    rw [hQQ]
    exact W.zret (v := (0 : Int32)) hx hb hr rfl (fun t ht hW => ⟨⟨(0 : Int32), (), rfl, ⟨rfl, (by decide)⟩, by rw [ht]; exact hP9, va_K.moved hW.alike hK9, hD9⟩, hS.F ht⟩) hS.2.2 (zat zrX7_readAsker_0_ok 14 rfl)
  · have h := (if_neg c5).symm.trans h
    refine lv_aload_n hx hb (zat zrX7_readAsker_0_ok 4 rfl) rfl (lv_at hl 0 rfl) ?_
    obtain ⟨s9, hs9, xs9⟩ := hE.1 (RX7, 154, "reach", tx_reach) (List.mem_of_getElem? (i := 10) rfl)
    refine va_ldcS hx hb hown hs9 (zat zrX7_readAsker_0_ok 5 rfl) ?_
    obtain ⟨o11, eo11, h⟩ := bd_of h
    refine ck_i (wc := (bX7 a0 ur kr o2.2 [])) (wr := (bX6 a1 up kp p_p [])) hP hD hK hS hA [10, 11, 12, 13] [0, 1, 2, 3, 4, 5, 6, 7, 8, 9] rfl rfl (by decide) (by decide) (by decide) (fun hPc hDc => (va_runV (As := [.ref s9]) (rest := []) ⟨hx, hb, hml, hown, hts⟩ (kfX7_takeWord l dC dI a0 s9 tx_reach ur kr o2.2 H.size B o11 eo11) (cwV 1 hts gfX7_readAsker_1 rfl rfl rfl (by decide +kernel) ⟨(Nat.le_of_ble_eq_true rfl), (Nat.le_of_ble_eq_true rfl)⟩) (PVF hPc (hK.sub (tys' := (tX7 kr ([]))) [0, 1, 2] rfl) hDc hN hS hB hE (S1c xs9 S1n) 0 rfl rfl) rfl rfl hl.1 rfl (lv_room (Nat.le_of_ble_eq_true rfl)) (zat zrX7_readAsker_0_ok 6 rfl) ⟨(Nat.le_of_ble_eq_true rfl), (Nat.le_of_ble_eq_true rfl)⟩)) (fun r11 _ H locs hw hP hD _ hS => ?_)
    obtain ⟨hw, br11⟩ := hw
    obtain rfl := hw
    obtain ⟨hP, hD⟩ := pd_mk (bX6 a1 up kp p_p (bX7 a0 ur kr o11.2 [])) hP hD
    refine lv_if_eq (tgt := 26) hx hb (zat zrX7_readAsker_0_ok 7 rfl) (by decide) (fun c14 => ?_) (fun c14 => ?_)
    · have h := (if_pos c14).symm.trans h
      refine lv_iconst (v := 0) hx hb (zat zrX7_readAsker_0_ok 13 rfl) (by decide) ?_
      obtain rfl := Option.some.inj h
      obtain ⟨hP9, hD9⟩ := pd_sub (bX7 a0 ur kr o11.2 (bX6 a1 up kp p_p [])) [10, 11, 12, 13, 0, 1, 2, 3, 4, 5, 6, 7, 8, 9] hP hD (by decide) rfl
      have hK9 := hK.sub (tys' := []) [] rfl
      rw [hQQ]
      exact W.zret (v := (0 : Int32)) hx hb hr rfl (fun t ht hW => ⟨⟨(0 : Int32), (), rfl, ⟨rfl, (by decide)⟩, by rw [ht]; exact hP9, va_K.moved hW.alike hK9, hD9⟩, hS.F ht⟩) hS.2.2 (zat zrX7_readAsker_0_ok 14 rfl)
    · have h := (if_neg c14).symm.trans h
      refine lv_aload_n hx hb (zat zrX7_readAsker_0_ok 8 rfl) rfl (lv_at hl 0 rfl) ?_
      refine lv_iconst (v := 0) hx hb (zat zrX7_readAsker_0_ok 9 rfl) (by decide) ?_
      refine lv_iconst (v := 3) hx hb (zat zrX7_readAsker_0_ok 10 rfl) (by decide) ?_
      obtain ⟨o20, eo20, h⟩ := bd_of h
      refine ck_i (wc := (bX7 a0 ur kr o11.2 [])) (wr := (bX6 a1 up kp p_p [])) hP hD hK hS hA [10, 11, 12, 13] [0, 1, 2, 3, 4, 5, 6, 7, 8, 9] rfl rfl (by decide) (by decide) (by decide) (fun hPc hDc => (va_runV (As := [.int 0, .int 3]) (rest := []) ⟨hx, hb, hml, hown, hts⟩ (kfX7_takeWhole l dC dI a0 (0 : Int32) (3 : Int32) ur kr o11.2 H.size o20 eo20) (cwV 2 hts gfX7_readAsker_2 rfl rfl rfl (by decide +kernel) ⟨(Nat.le_of_ble_eq_true rfl), (Nat.le_of_ble_eq_true rfl)⟩) (PV hPc (hK.sub (tys' := (tX7 kr ([]))) [0, 1, 2] rfl) hDc hN 0 rfl rfl) rfl rfl hl.1 rfl (lv_room (Nat.le_of_ble_eq_true rfl)) (zat zrX7_readAsker_0_ok 11 rfl) ⟨(Nat.le_of_ble_eq_true rfl), (Nat.le_of_ble_eq_true rfl)⟩)) (fun r20 _ H locs hw hP hD _ hS => ?_)
      obtain ⟨hw, br20⟩ := hw
      obtain rfl := hw
      obtain ⟨hP, hD⟩ := pd_mk (bX6 a1 up kp p_p (bX7 a0 ur kr o20.2 [])) hP hD
      refine lv_if_ne (tgt := 28) hx hb (zat zrX7_readAsker_0_ok 12 rfl) (by decide) (fun c23 => ?_) (fun c23 => ?_)
      · have h := (if_neg c23).symm.trans h
        refine lv_aload_n hx hb (zat zrX7_readAsker_0_ok 15 rfl) rfl (lv_at hl 1 rfl) ?_
        refine va_get (D := (dC, dI)) (ci := 4) (v := .ref (up 0)) (C := RX6) (T := TX6) (N := 18) hx hb hts ifX7_readAsker_X6 hown hK hP 0 rfl rfl 9 (by decide) (hts (.fieldLink RX7 156 "HookPier$Plan" "reach" "[I") (List.mem_of_getElem? (i := 11) rfl)) (fun _ h9 => h9) rfl (zat zrX7_readAsker_0_ok 16 rfl) ?_
        refine lv_aload_n hx hb (zat zrX7_readAsker_0_ok 17 rfl) rfl (lv_at hl 1 rfl) ?_
        refine va_get (D := (dC, dI)) (ci := 4) (v := .int p_p.2.2.2.2.2.1) (C := RX6) (T := TX6) (N := 18) hx hb hts ifX7_readAsker_X6 hown hK hP 0 rfl rfl 5 (by decide) (hts (.fieldLink RX7 99 "HookPier$Plan" "askers" "I") (List.mem_of_getElem? (i := 12) rfl)) (fun _ h9 => h9) rfl (zat zrX7_readAsker_0_ok 18 rfl) ?_
        refine lv_aload_n hx hb (zat zrX7_readAsker_0_ok 19 rfl) rfl (lv_at hl 0 rfl) ?_
        refine va_get (D := (dC, dI)) (ci := 5) (v := .int o20.2.2.2.2.2.2.2.1) (C := RX7) (T := TX7) (N := 12) hx hb hts ifX7_readAsker_X7 hown hK hP 10 rfl rfl 6 (by decide) (hts (.fieldLink RX7 31 "HookPier$Reader" "value" "I") (List.mem_of_getElem? (i := 13) rfl)) (fun _ h9 => h9) rfl (zat zrX7_readAsker_0_ok 20 rfl) ?_
        obtain ⟨hg40, h⟩ := gA_of h
        refine va_iast hx hb hK hP hD hS 1 3 rfl rfl hg40 (zat zrX7_readAsker_0_ok 21 rfl) (fun H locs hP hD hS => ?_)
        obtain ⟨hP, hD⟩ := pd_mk (bX6 a1 up kp (p_p.1, p_p.2.1, p_p.2.2.1, p_p.2.2.2.1, p_p.2.2.2.2.1, p_p.2.2.2.2.2.1, p_p.2.2.2.2.2.2.1, p_p.2.2.2.2.2.2.2.1, p_p.2.2.2.2.2.2.2.2.1, (upd p_p.2.2.2.2.2.2.2.2.2.1 (p_p.2.2.2.2.2.1).toNatClampNeg o20.2.2.2.2.2.2.2.1), p_p.2.2.2.2.2.2.2.2.2.2) (bX7 a0 ur kr o20.2 [])) hP hD
        refine lv_aload_n hx hb (zat zrX7_readAsker_0_ok 22 rfl) rfl (lv_at hl 1 rfl) ?_
        refine lv_dup hx hb (zat zrX7_readAsker_0_ok 23 rfl) rfl ?_
        refine va_get (D := (dC, dI)) (ci := 4) (v := .int p_p.2.2.2.2.2.1) (C := RX6) (T := TX6) (N := 18) hx hb hts ifX7_readAsker_X6 hown hK hP 0 rfl rfl 5 (by decide) (hts (.fieldLink RX7 99 "HookPier$Plan" "askers" "I") (List.mem_of_getElem? (i := 12) rfl)) (fun _ h9 => h9) rfl (zat zrX7_readAsker_0_ok 24 rfl) ?_
        refine lv_iconst (v := 1) hx hb (zat zrX7_readAsker_0_ok 25 rfl) (by decide) ?_
        refine lv_iadd hx hb (zat zrX7_readAsker_0_ok 26 rfl) ?_
        refine va_put (D := (dC, dI)) (ci := 4) (v := .int (p_p.2.2.2.2.2.1 + (1 : Int32))) (ty := .int) (C := RX6) (T := TX6) (N := 18) hx hb hts ifX7_readAsker_X6 tyX6 tyX6_ok nmX6 hown hK hP hD hS 0 rfl rfl 5 (by decide) (hts (.fieldLink RX7 99 "HookPier$Plan" "askers" "I") (List.mem_of_getElem? (i := 12) rfl)) (fun _ h9 => h9) rfl (by decide +kernel) rfl rfl (Nat.le_of_ble_eq_true rfl) (zat zrX7_readAsker_0_ok 27 rfl) (fun H locs hP hD hS => ?_)
        obtain ⟨hP, hD⟩ := pd_mk (bX6 a1 up kp (p_p.1, p_p.2.1, p_p.2.2.1, p_p.2.2.2.1, p_p.2.2.2.2.1, (p_p.2.2.2.2.2.1 + (1 : Int32)), p_p.2.2.2.2.2.2.1, p_p.2.2.2.2.2.2.2.1, p_p.2.2.2.2.2.2.2.2.1, (upd p_p.2.2.2.2.2.2.2.2.2.1 (p_p.2.2.2.2.2.1).toNatClampNeg o20.2.2.2.2.2.2.2.1), p_p.2.2.2.2.2.2.2.2.2.2) (bX7 a0 ur kr o20.2 [])) hP hD
        refine lv_iconst (v := 1) hx hb (zat zrX7_readAsker_0_ok 28 rfl) (by decide) ?_
        obtain rfl := Option.some.inj h
        obtain ⟨hP9, hD9⟩ := pd_sub (bX7 a0 ur kr o20.2 (bX6 a1 up kp (p_p.1, p_p.2.1, p_p.2.2.1, p_p.2.2.2.1, p_p.2.2.2.2.1, (p_p.2.2.2.2.2.1 + (1 : Int32)), p_p.2.2.2.2.2.2.1, p_p.2.2.2.2.2.2.2.1, p_p.2.2.2.2.2.2.2.2.1, (upd p_p.2.2.2.2.2.2.2.2.2.1 (p_p.2.2.2.2.2.1).toNatClampNeg o20.2.2.2.2.2.2.2.1), p_p.2.2.2.2.2.2.2.2.2.2) [])) [10, 11, 12, 13, 0, 1, 2, 3, 4, 5, 6, 7, 8, 9] hP hD (by decide) rfl
        have hK9 := hK.sub (tys' := []) [] rfl
        rw [hQQ]
        exact W.zret (v := (1 : Int32)) hx hb hr rfl (fun t ht hW => ⟨⟨(1 : Int32), (), rfl, ⟨rfl, (by decide)⟩, by rw [ht]; exact hP9, va_K.moved hW.alike hK9, hD9⟩, hS.F ht⟩) hS.2.2 (zat zrX7_readAsker_0_ok 29 rfl)
      · have h := (if_pos c23).symm.trans h
        refine lv_iconst (v := 0) hx hb (zat zrX7_readAsker_0_ok 13 rfl) (by decide) ?_
        obtain rfl := Option.some.inj h
        obtain ⟨hP9, hD9⟩ := pd_sub (bX7 a0 ur kr o20.2 (bX6 a1 up kp p_p [])) [10, 11, 12, 13, 0, 1, 2, 3, 4, 5, 6, 7, 8, 9] hP hD (by decide) rfl
        have hK9 := hK.sub (tys' := []) [] rfl
        rw [hQQ]
        exact W.zret (v := (0 : Int32)) hx hb hr rfl (fun t ht hW => ⟨⟨(0 : Int32), (), rfl, ⟨rfl, (by decide)⟩, by rw [ht]; exact hP9, va_K.moved hW.alike hK9, hD9⟩, hS.F ht⟩) hS.2.2 (zat zrX7_readAsker_0_ok 14 rfl)
noncomputable def zrX7_readAnswer_0 : List ZR := zc 0 true (.aload_n 1) 1 (zc 1 true (.getfield 107) 3 (zc 4 true (.istore_n 2) 1 (zc 5 true (.aload_n 0) 1 (zc 6 true (.iconst (-1)) 1 (zc 7 true (.invokevirtual 151) 3 (zc 10 true (.ifCond .eq 10) 3 (zc 13 true (.aload_n 0) 1 (zc 14 true (.invokevirtual 158) 3 (zc 17 true (.ifCond .ne 5) 3 (zc 20 true (.iconst 0) 1 (zc 21 true (.ireturn) 1 (zc 22 true (.aload_n 1) 1 (zc 23 true (.getfield 162) 3 (zc 26 true (.iload_n 2) 1 (zc 27 true (.aload_n 0) 1 (zc 28 true (.getfield 31) 3 (zc 31 true (.iastore) 1 (zc 32 true (.aload_n 0) 1 (zc 33 true (.ldc 165) 2 (zc 35 true (.invokevirtual 130) 3 (zc 38 true (.ifCond .eq 17) 3 (zc 41 true (.aload_n 0) 1 (zc 42 true (.iconst 0) 1 (zc 43 true (.aload_n 1) 1 (zc 44 true (.getfield 82) 3 (zc 47 true (.iconst 1) 1 (zc 48 true (.isub) 1 (zc 49 true (.invokevirtual 133) 3 (zc 52 true (.ifCond .ne 5) 3 (zc 55 true (.iconst 0) 1 (zc 56 true (.ireturn) 1 (zc 57 true (.aload_n 1) 1 (zc 58 true (.getfield 167) 3 (zc 61 true (.iload_n 2) 1 (zc 62 true (.aload_n 0) 1 (zc 63 true (.getfield 31) 3 (zc 66 true (.iastore) 1 (zc 67 true (.aload_n 0) 1 (zc 68 true (.ldc 169) 2 (zc 70 true (.invokevirtual 130) 3 (zc 73 true (.ifCond .eq 15) 3 (zc 76 true (.aload_n 0) 1 (zc 77 true (.iconst 1) 1 (zc 78 true (.aload_n 1) 1 (zc 79 true (.getfield 139) 3 (zc 82 true (.invokevirtual 133) 3 (zc 85 true (.ifCond .ne 5) 3 (zc 88 true (.iconst 0) 1 (zc 89 true (.ireturn) 1 (zc 90 true (.aload_n 1) 1 (zc 91 true (.getfield 171) 3 (zc 94 true (.iload_n 2) 1 (zc 95 true (.aload_n 0) 1 (zc 96 true (.getfield 31) 3 (zc 99 true (.iastore) 1 (zc 100 true (.aload_n 0) 1 (zc 101 true (.ldc 173) 2 (zc 103 true (.invokevirtual 130) 3 (zc 106 true (.ifCond .eq 13) 3 (zc 109 true (.aload_n 0) 1 (zc 110 true (.iconst 0) 1 (zc 111 true (.bipush 99) 2 (zc 113 true (.invokevirtual 133) 3 ([]))))))))))))))))))))))))))))))))))))))))))))))))))))))))))))))))
theorem zrX7_readAnswer_0_ok : zck 0 ((zby cX7_readAnswer).drop 0) zrX7_readAnswer_0 = true := by decide +kernel
noncomputable def zrX7_readAnswer_1 : List ZR := zc 116 true (.ifCond .ne 5) 3 (zc 119 true (.iconst 0) 1 (zc 120 true (.ireturn) 1 (zc 121 true (.aload_n 1) 1 (zc 122 true (.getfield 175) 3 (zc 125 true (.iload_n 2) 1 (zc 126 true (.aload_n 0) 1 (zc 127 true (.getfield 31) 3 (zc 130 true (.iastore) 1 (zc 131 true (.aload_n 0) 1 (zc 132 true (.ldc 177) 2 (zc 134 true (.invokevirtual 130) 3 (zc 137 true (.ifCond .eq 10) 3 (zc 140 true (.aload_n 0) 1 (zc 141 true (.invokevirtual 179) 3 (zc 144 true (.ifCond .ne 5) 3 (zc 147 true (.iconst 0) 1 (zc 148 true (.ireturn) 1 (zc 149 true (.aload_n 1) 1 (zc 150 true (.getfield 182) 3 (zc 153 true (.iload_n 2) 1 (zc 154 true (.aload_n 0) 1 (zc 155 true (.getfield 31) 3 (zc 158 true (.iastore) 1 (zc 159 true (.aload_n 0) 1 (zc 160 true (.ldc 184) 2 (zc 162 true (.invokevirtual 130) 3 (zc 165 true (.ifCond .eq 13) 3 (zc 168 true (.aload_n 0) 1 (zc 169 true (.iconst 0) 1 (zc 170 true (.bipush 99) 2 (zc 172 true (.invokevirtual 133) 3 (zc 175 true (.ifCond .ne 5) 3 (zc 178 true (.iconst 0) 1 (zc 179 true (.ireturn) 1 (zc 180 true (.aload_n 1) 1 (zc 181 true (.getfield 186) 3 (zc 184 true (.iload_n 2) 1 (zc 185 true (.aload_n 0) 1 (zc 186 true (.getfield 31) 3 (zc 189 true (.iastore) 1 (zc 190 true (.aload_n 1) 1 (zc 191 true (.dup) 1 (zc 192 true (.getfield 107) 3 (zc 195 true (.iconst 1) 1 (zc 196 true (.iadd) 1 (zc 197 true (.putfield 107) 3 (zc 200 true (.iconst 1) 1 (zc 201 true (.ireturn) 1 ([])))))))))))))))))))))))))))))))))))))))))))))))))
theorem zrX7_readAnswer_1_ok : zck 116 ((zby cX7_readAnswer).drop 116) zrX7_readAnswer_1 = true := by decide +kernel
def vfX7_readAnswer : List Cond := List.cons (.code yX7_readAnswer cX7_readAnswer 3 (some .boolean)) (apW [.fieldLink RX7 107 "HookPier$Plan" "answers" "I", .methodLink RX7 151 yX7_takeNewName, .instanceMethod yX7_takeNewName, .selects RX7 yX7_takeNewName yX7_takeNewName, .initialized RX7, .methodLink RX7 158 yX7_takeKind, .instanceMethod yX7_takeKind, .selects RX7 yX7_takeKind yX7_takeKind, .fieldLink RX7 162 "HookPier$Plan" "kind" "[I", .fieldLink RX7 31 "HookPier$Reader" "value" "I", .methodLink RX7 130 yX7_takeWord, .instanceMethod yX7_takeWord, .selects RX7 yX7_takeWord yX7_takeWord, .fieldLink RX7 82 "HookPier$Plan" "spots" "I", .methodLink RX7 133 yX7_takeWhole, .instanceMethod yX7_takeWhole, .selects RX7 yX7_takeWhole yX7_takeWhole, .fieldLink RX7 167 "HookPier$Plan" "at" "[I", .fieldLink RX7 139 "HookPier$Plan" "deep" "I", .fieldLink RX7 171 "HookPier$Plan" "depth" "[I", .fieldLink RX7 175 "HookPier$Plan" "hunger" "[I", .methodLink RX7 179 yX7_takeBait, .instanceMethod yX7_takeBait, .selects RX7 yX7_takeBait yX7_takeBait, .fieldLink RX7 182 "HookPier$Plan" "likes" "[I", .fieldLink RX7 186 "HookPier$Plan" "told" "[I"] (apW wsX60 (apW wsX70 (apW vfX7_takeNewName (apW vfX7_takeKind (apW vfX7_takeWord (apW vfX7_takeWhole (vfX7_takeBait))))))))
theorem ifX7_readAnswer_X6 : ∀ w ∈ wsX60, w ∈ vfX7_readAnswer := fun _ h => (List.mem_cons_of_mem _ (List.mem_append_right _ (List.mem_append_left _ h)))
theorem ifX7_readAnswer_X7 : ∀ w ∈ wsX70, w ∈ vfX7_readAnswer := fun _ h => (List.mem_cons_of_mem _ (List.mem_append_right _ (List.mem_append_right _ (List.mem_append_left _ h))))
theorem qfX7_readAnswer : Good vfX7_readAnswer := gd_cons (by decide +kernel) (gd_app (gd_dec (by decide +kernel) : Good [.fieldLink RX7 107 "HookPier$Plan" "answers" "I", .methodLink RX7 151 yX7_takeNewName, .instanceMethod yX7_takeNewName, .selects RX7 yX7_takeNewName yX7_takeNewName, .initialized RX7, .methodLink RX7 158 yX7_takeKind, .instanceMethod yX7_takeKind, .selects RX7 yX7_takeKind yX7_takeKind, .fieldLink RX7 162 "HookPier$Plan" "kind" "[I", .fieldLink RX7 31 "HookPier$Reader" "value" "I", .methodLink RX7 130 yX7_takeWord, .instanceMethod yX7_takeWord, .selects RX7 yX7_takeWord yX7_takeWord, .fieldLink RX7 82 "HookPier$Plan" "spots" "I", .methodLink RX7 133 yX7_takeWhole, .instanceMethod yX7_takeWhole, .selects RX7 yX7_takeWhole yX7_takeWhole, .fieldLink RX7 167 "HookPier$Plan" "at" "[I", .fieldLink RX7 139 "HookPier$Plan" "deep" "I", .fieldLink RX7 171 "HookPier$Plan" "depth" "[I", .fieldLink RX7 175 "HookPier$Plan" "hunger" "[I", .methodLink RX7 179 yX7_takeBait, .instanceMethod yX7_takeBait, .selects RX7 yX7_takeBait yX7_takeBait, .fieldLink RX7 182 "HookPier$Plan" "likes" "[I", .fieldLink RX7 186 "HookPier$Plan" "told" "[I"]) (gd_app qsX6 (gd_app qsX7 (gd_app qfX7_takeNewName (gd_app qfX7_takeKind (gd_app qfX7_takeWord (gd_app qfX7_takeWhole qfX7_takeBait)))))))
theorem gfX7_readAnswer_0 : GoodIn vfX7_readAnswer (wsV RX7 151 RX7 yX7_takeNewName vfX7_takeNewName) := goodIn_app (goodIn_r [.methodLink RX7 151 yX7_takeNewName, .instanceMethod yX7_takeNewName, .selects RX7 yX7_takeNewName yX7_takeNewName, .initialized RX7] [2, 3, 4, 5] rfl (by decide +kernel)) (goodIn_m (fun _ h => (List.mem_cons_of_mem _ (List.mem_append_right _ (List.mem_append_right _ (List.mem_append_right _ (List.mem_append_left _ h)))))) qfX7_takeNewName)
theorem gfX7_readAnswer_1 : GoodIn vfX7_readAnswer (wsV RX7 158 RX7 yX7_takeKind vfX7_takeKind) := goodIn_app (goodIn_r [.methodLink RX7 158 yX7_takeKind, .instanceMethod yX7_takeKind, .selects RX7 yX7_takeKind yX7_takeKind, .initialized RX7] [6, 7, 8, 5] rfl (by decide +kernel)) (goodIn_m (fun _ h => (List.mem_cons_of_mem _ (List.mem_append_right _ (List.mem_append_right _ (List.mem_append_right _ (List.mem_append_right _ (List.mem_append_left _ h))))))) qfX7_takeKind)
theorem gfX7_readAnswer_2 : GoodIn vfX7_readAnswer (wsV RX7 130 RX7 yX7_takeWord vfX7_takeWord) := goodIn_app (goodIn_r [.methodLink RX7 130 yX7_takeWord, .instanceMethod yX7_takeWord, .selects RX7 yX7_takeWord yX7_takeWord, .initialized RX7] [11, 12, 13, 5] rfl (by decide +kernel)) (goodIn_m (fun _ h => (List.mem_cons_of_mem _ (List.mem_append_right _ (List.mem_append_right _ (List.mem_append_right _ (List.mem_append_right _ (List.mem_append_right _ (List.mem_append_left _ h)))))))) qfX7_takeWord)
theorem gfX7_readAnswer_3 : GoodIn vfX7_readAnswer (wsV RX7 133 RX7 yX7_takeWhole vfX7_takeWhole) := goodIn_app (goodIn_r [.methodLink RX7 133 yX7_takeWhole, .instanceMethod yX7_takeWhole, .selects RX7 yX7_takeWhole yX7_takeWhole, .initialized RX7] [15, 16, 17, 5] rfl (by decide +kernel)) (goodIn_m (fun _ h => (List.mem_cons_of_mem _ (List.mem_append_right _ (List.mem_append_right _ (List.mem_append_right _ (List.mem_append_right _ (List.mem_append_right _ (List.mem_append_right _ (List.mem_append_left _ h))))))))) qfX7_takeWhole)
theorem gfX7_readAnswer_4 : GoodIn vfX7_readAnswer (wsV RX7 179 RX7 yX7_takeBait vfX7_takeBait) := goodIn_app (goodIn_r [.methodLink RX7 179 yX7_takeBait, .instanceMethod yX7_takeBait, .selects RX7 yX7_takeBait yX7_takeBait, .initialized RX7] [22, 23, 24, 5] rfl (by decide +kernel)) (goodIn_m (fun _ h => (List.mem_cons_of_mem _ (List.mem_append_right _ (List.mem_append_right _ (List.mem_append_right _ (List.mem_append_right _ (List.mem_append_right _ (List.mem_append_right _ (List.mem_append_right _ h))))))))) qfX7_takeBait)
set_option maxHeartbeats 2000000 in
set_option maxRecDepth 100000 in
theorem kfX7_readAnswer (l : Launch) (dC : Nat → ClassId) (dI : Nat → Nat → Nat) (a0 : Nat) (a1 : Nat) (ur : Nat → Nat) (kr : Nat → ClassId) (up : Nat → Nat) (kp : Nat → ClassId) (r_r : TX7_r) (p_p : TX6_p) (sz : Nat) (B : Nat) (out : (Int32 × TX7_r × TX6_p)) (h : f_X7_readAnswer r_r p_p = some out) : Met l yX7_readAnswer vfX7_readAnswer ({ frames := 7, cells := 0, slots := 0, locals := 150 }) (PF (dC, dI) B [.ref a0, .ref a1] sz (bX7 a0 ur kr r_r (bX6 a1 up kp p_p [])) (tX7 kr (tX6 kp ([]))) []) (va_Qi (S := Unit) (fun (r : Int32) _ => r = out.1 ∧ (0 ≤ r.toInt ∧ r.toInt ≤ 1)) (fun _ t => BC (dC, dI) (va_A (bX7 a0 ur kr r_r (bX6 a1 up kp p_p [])) sz) (bX7 a0 ur kr out.2.1 (bX6 a1 up kp out.2.2 [])) [] t) (va_A (bX7 a0 ur kr r_r (bX6 a1 up kp p_p [])) sz)) 0 0 (va_A (bX7 a0 ur kr r_r (bX6 a1 up kp p_p [])) sz) := by
  refine Met.ofW (cc := cX7_readAnswer) (maxL := 3) (ret := (some .boolean)) (by decide) rfl ?_
  intro p e s m args below meth c s₁ B0 hml hv
  obtain ⟨rfl, hsz, hP, hK, hD0, hN, hBs, hE, hX⟩ := hv
  have hBA := PF_reg hD0 hBs
  have hx := B0.exec
  have hb := B0.bytes
  have hr := B0.returns
  have hts := atoms_spec (ws := vfX7_readAnswer) B0.pre
  have hown : s.vm.findClass RX7 = some m.cls := findClass_of_methodNamed B0.named
  have hlocks := B0.notSynchronized
  subst hsz
  have hD := hD0.self (sz := s.heap.size)
  generalize hAe : va_A (bX7 a0 ur kr r_r (bX6 a1 up kp p_p [])) s.heap.size = A at hD hBA ⊢
  have hA : ∀ q : Nat, s.heap.size ≤ q → A q := fun q h => by rw [← hAe]; exact Or.inr h
  have hS : va_S A s.heap s.heap [] := va_S.rf
  have hP : va_P (dC, dI) vwCl (bX7 a0 ur kr r_r (bX6 a1 up kp p_p [])) s.heap := hP
  have hl := lv_entry ([.ref a0, .ref a1]) (n := 3) (Nat.le_of_ble_eq_true rfl)
  rw [lg_entry_eq]
  generalize (lg_sl ([.ref a0, .ref a1]) ++ List.replicate (3 - (lg_sl ([.ref a0, .ref a1])).length) Slot.unset).toArray = ls at hl ⊢
  have hl : lv_has ls 3 [(0, .ref a0), (1, .ref a1)] := hl
  have hB : RB B s A := ⟨hBA, hBs⟩
  refine W_q (fun QQ hQQ => ?_)
  rw [f_X7_readAnswer] at h
  refine lv_aload_n hx hb (zat zrX7_readAnswer_0_ok 0 rfl) rfl (lv_at hl 1 rfl) ?_
  refine va_get (D := (dC, dI)) (ci := 4) (v := .int p_p.2.2.2.2.2.2.1) (C := RX6) (T := TX6) (N := 18) hx hb hts ifX7_readAnswer_X6 hown hK hP 4 rfl rfl 6 (by decide) (hts (.fieldLink RX7 107 "HookPier$Plan" "answers" "I") (List.mem_of_getElem? (i := 1) rfl)) (fun _ h9 => h9) rfl (zat zrX7_readAnswer_0_ok 1 rfl) ?_
  refine lv_istore_n (lv' := [(2, .int p_p.2.2.2.2.2.2.1), (0, .ref a0), (1, .ref a1)]) hx hb (zat zrX7_readAnswer_0_ok 2 rfl) rfl hl (by decide) rfl (fun ls hl => ?_)
  refine lv_aload_n hx hb (zat zrX7_readAnswer_0_ok 3 rfl) rfl (lv_at hl 1 rfl) ?_
  refine lv_iconst (v := (-1)) hx hb (zat zrX7_readAnswer_0_ok 4 rfl) (by decide) ?_
  obtain ⟨o7, eo7, h⟩ := bd_of h
  refine ck_i (wc := (bX7 a0 ur kr r_r [])) (wr := (bX6 a1 up kp p_p [])) hP hD hK hS hA [0, 1, 2, 3] [4, 5, 6, 7, 8, 9, 10, 11, 12, 13] rfl rfl (by decide) (by decide) (by decide) (fun hPc hDc => (va_runV (As := [.int (-1)]) (rest := []) ⟨hx, hb, hml, hown, hts⟩ (kfX7_takeNewName l dC dI a0 (-1 : Int32) ur kr r_r s.heap.size B o7 eo7) (cwV 1 hts gfX7_readAnswer_0 rfl rfl rfl (by decide +kernel) ⟨(Nat.le_of_ble_eq_true rfl), (Nat.le_of_ble_eq_true rfl)⟩) (PVF hPc (hK.sub (tys' := (tX7 kr ([]))) [0, 1, 2] rfl) hDc hN hS hB hE S1n 0 rfl rfl) rfl rfl hl.1 rfl (lv_room (Nat.le_of_ble_eq_true rfl)) (zat zrX7_readAnswer_0_ok 5 rfl) ⟨(Nat.le_of_ble_eq_true rfl), (Nat.le_of_ble_eq_true rfl)⟩)) (fun r7 _ H locs hw hP hD _ hS => ?_)
  obtain ⟨hw, br7⟩ := hw
  obtain rfl := hw
  obtain ⟨hP, hD⟩ := pd_mk (bX6 a1 up kp p_p (bX7 a0 ur kr o7.2 [])) hP hD
  refine lv_if_eq (tgt := 20) hx hb (zat zrX7_readAnswer_0_ok 6 rfl) (by decide) (fun c10 => ?_) (fun c10 => ?_)
  · have h := (if_pos c10).symm.trans h
    refine lv_iconst (v := 0) hx hb (zat zrX7_readAnswer_0_ok 10 rfl) (by decide) ?_
    obtain rfl := Option.some.inj h
    obtain ⟨hP9, hD9⟩ := pd_sub (bX7 a0 ur kr o7.2 (bX6 a1 up kp p_p [])) [10, 11, 12, 13, 0, 1, 2, 3, 4, 5, 6, 7, 8, 9] hP hD (by decide) rfl
    have hK9 := hK.sub (tys' := []) [] rfl
    rw [hQQ]
    exact W.zret (v := (0 : Int32)) hx hb hr rfl (fun t ht hW => ⟨⟨(0 : Int32), (), rfl, ⟨rfl, (by decide)⟩, by rw [ht]; exact hP9, va_K.moved hW.alike hK9, hD9⟩, hS.F ht⟩) hS.2.2 (zat zrX7_readAnswer_0_ok 11 rfl)
  · have h := (if_neg c10).symm.trans h
    refine lv_aload_n hx hb (zat zrX7_readAnswer_0_ok 7 rfl) rfl (lv_at hl 1 rfl) ?_
    obtain ⟨o14, eo14, h⟩ := bd_of h
    refine ck_i (wc := (bX7 a0 ur kr o7.2 [])) (wr := (bX6 a1 up kp p_p [])) hP hD hK hS hA [10, 11, 12, 13] [0, 1, 2, 3, 4, 5, 6, 7, 8, 9] rfl rfl (by decide) (by decide) (by decide) (fun hPc hDc => (va_runV (As := []) (rest := []) ⟨hx, hb, hml, hown, hts⟩ (kfX7_takeKind l dC dI a0 ur kr o7.2 H.size B o14 eo14) (cwV 0 hts gfX7_readAnswer_1 rfl rfl rfl (by decide +kernel) ⟨(Nat.le_of_ble_eq_true rfl), (Nat.le_of_ble_eq_true rfl)⟩) (PVF hPc (hK.sub (tys' := (tX7 kr ([]))) [0, 1, 2] rfl) hDc hN hS hB hE S1n 0 rfl rfl) rfl rfl hl.1 rfl (lv_room (Nat.le_of_ble_eq_true rfl)) (zat zrX7_readAnswer_0_ok 8 rfl) ⟨(Nat.le_of_ble_eq_true rfl), (Nat.le_of_ble_eq_true rfl)⟩)) (fun r14 _ H locs hw hP hD _ hS => ?_)
    obtain ⟨hw, br14⟩ := hw
    obtain rfl := hw
    obtain ⟨hP, hD⟩ := pd_mk (bX6 a1 up kp p_p (bX7 a0 ur kr o14.2 [])) hP hD
    refine lv_if_ne (tgt := 22) hx hb (zat zrX7_readAnswer_0_ok 9 rfl) (by decide) (fun c17 => ?_) (fun c17 => ?_)
    · have h := (if_neg c17).symm.trans h
      refine lv_aload_n hx hb (zat zrX7_readAnswer_0_ok 12 rfl) rfl (lv_at hl 2 rfl) ?_
      refine va_get (D := (dC, dI)) (ci := 4) (v := .ref (up 1)) (C := RX6) (T := TX6) (N := 18) hx hb hts ifX7_readAnswer_X6 hown hK hP 0 rfl rfl 10 (by decide) (hts (.fieldLink RX7 162 "HookPier$Plan" "kind" "[I") (List.mem_of_getElem? (i := 9) rfl)) (fun _ h9 => h9) rfl (zat zrX7_readAnswer_0_ok 13 rfl) ?_
      refine lv_iload_n hx hb (zat zrX7_readAnswer_0_ok 14 rfl) rfl (lv_at hl 0 rfl) ?_
      refine lv_aload_n hx hb (zat zrX7_readAnswer_0_ok 15 rfl) rfl (lv_at hl 1 rfl) ?_
      refine va_get (D := (dC, dI)) (ci := 5) (v := .int o14.2.2.2.2.2.2.2.1) (C := RX7) (T := TX7) (N := 12) hx hb hts ifX7_readAnswer_X7 hown hK hP 10 rfl rfl 6 (by decide) (hts (.fieldLink RX7 31 "HookPier$Reader" "value" "I") (List.mem_of_getElem? (i := 10) rfl)) (fun _ h9 => h9) rfl (zat zrX7_readAnswer_0_ok 16 rfl) ?_
      obtain ⟨hg31, h⟩ := gA_of h
      refine va_iast hx hb hK hP hD hS 2 4 rfl rfl hg31 (zat zrX7_readAnswer_0_ok 17 rfl) (fun H locs hP hD hS => ?_)
      obtain ⟨hP, hD⟩ := pd_mk (bX6 a1 up kp (p_p.1, p_p.2.1, p_p.2.2.1, p_p.2.2.2.1, p_p.2.2.2.2.1, p_p.2.2.2.2.2.1, p_p.2.2.2.2.2.2.1, p_p.2.2.2.2.2.2.2.1, p_p.2.2.2.2.2.2.2.2.1, p_p.2.2.2.2.2.2.2.2.2.1, (upd p_p.2.2.2.2.2.2.2.2.2.2.1 (p_p.2.2.2.2.2.2.1).toNatClampNeg o14.2.2.2.2.2.2.2.1), p_p.2.2.2.2.2.2.2.2.2.2.2) (bX7 a0 ur kr o14.2 [])) hP hD
      refine lv_aload_n hx hb (zat zrX7_readAnswer_0_ok 18 rfl) rfl (lv_at hl 1 rfl) ?_
      obtain ⟨s33, hs33, xs33⟩ := hE.1 (RX7, 165, "at", tx_at) (List.mem_of_getElem? (i := 15) rfl)
      refine va_ldcS hx hb hown hs33 (zat zrX7_readAnswer_0_ok 19 rfl) ?_
      obtain ⟨o35, eo35, h⟩ := bd_of h
      refine ck_i (wc := (bX7 a0 ur kr o14.2 [])) (wr := (bX6 a1 up kp (p_p.1, p_p.2.1, p_p.2.2.1, p_p.2.2.2.1, p_p.2.2.2.2.1, p_p.2.2.2.2.2.1, p_p.2.2.2.2.2.2.1, p_p.2.2.2.2.2.2.2.1, p_p.2.2.2.2.2.2.2.2.1, p_p.2.2.2.2.2.2.2.2.2.1, (upd p_p.2.2.2.2.2.2.2.2.2.2.1 (p_p.2.2.2.2.2.2.1).toNatClampNeg o14.2.2.2.2.2.2.2.1), p_p.2.2.2.2.2.2.2.2.2.2.2) [])) hP hD hK hS hA [10, 11, 12, 13] [0, 1, 2, 3, 4, 5, 6, 7, 8, 9] rfl rfl (by decide) (by decide) (by decide) (fun hPc hDc => (va_runV (As := [.ref s33]) (rest := []) ⟨hx, hb, hml, hown, hts⟩ (kfX7_takeWord l dC dI a0 s33 tx_at ur kr o14.2 H.size B o35 eo35) (cwV 1 hts gfX7_readAnswer_2 rfl rfl rfl (by decide +kernel) ⟨(Nat.le_of_ble_eq_true rfl), (Nat.le_of_ble_eq_true rfl)⟩) (PVF hPc (hK.sub (tys' := (tX7 kr ([]))) [0, 1, 2] rfl) hDc hN hS hB hE (S1c xs33 S1n) 0 rfl rfl) rfl rfl hl.1 rfl (lv_room (Nat.le_of_ble_eq_true rfl)) (zat zrX7_readAnswer_0_ok 20 rfl) ⟨(Nat.le_of_ble_eq_true rfl), (Nat.le_of_ble_eq_true rfl)⟩)) (fun r35 _ H locs hw hP hD _ hS => ?_)
      obtain ⟨hw, br35⟩ := hw
      obtain rfl := hw
      obtain ⟨hP, hD⟩ := pd_mk (bX6 a1 up kp (p_p.1, p_p.2.1, p_p.2.2.1, p_p.2.2.2.1, p_p.2.2.2.2.1, p_p.2.2.2.2.2.1, p_p.2.2.2.2.2.2.1, p_p.2.2.2.2.2.2.2.1, p_p.2.2.2.2.2.2.2.2.1, p_p.2.2.2.2.2.2.2.2.2.1, (upd p_p.2.2.2.2.2.2.2.2.2.2.1 (p_p.2.2.2.2.2.2.1).toNatClampNeg o14.2.2.2.2.2.2.2.1), p_p.2.2.2.2.2.2.2.2.2.2.2) (bX7 a0 ur kr o35.2 [])) hP hD
      refine lv_if_eq (tgt := 55) hx hb (zat zrX7_readAnswer_0_ok 21 rfl) (by decide) (fun c38 => ?_) (fun c38 => ?_)
      · have h := (if_pos c38).symm.trans h
        refine lv_iconst (v := 0) hx hb (zat zrX7_readAnswer_0_ok 30 rfl) (by decide) ?_
        obtain rfl := Option.some.inj h
        obtain ⟨hP9, hD9⟩ := pd_sub (bX7 a0 ur kr o35.2 (bX6 a1 up kp (p_p.1, p_p.2.1, p_p.2.2.1, p_p.2.2.2.1, p_p.2.2.2.2.1, p_p.2.2.2.2.2.1, p_p.2.2.2.2.2.2.1, p_p.2.2.2.2.2.2.2.1, p_p.2.2.2.2.2.2.2.2.1, p_p.2.2.2.2.2.2.2.2.2.1, (upd p_p.2.2.2.2.2.2.2.2.2.2.1 (p_p.2.2.2.2.2.2.1).toNatClampNeg o14.2.2.2.2.2.2.2.1), p_p.2.2.2.2.2.2.2.2.2.2.2) [])) [10, 11, 12, 13, 0, 1, 2, 3, 4, 5, 6, 7, 8, 9] hP hD (by decide) rfl
        have hK9 := hK.sub (tys' := []) [] rfl
        rw [hQQ]
        exact W.zret (v := (0 : Int32)) hx hb hr rfl (fun t ht hW => ⟨⟨(0 : Int32), (), rfl, ⟨rfl, (by decide)⟩, by rw [ht]; exact hP9, va_K.moved hW.alike hK9, hD9⟩, hS.F ht⟩) hS.2.2 (zat zrX7_readAnswer_0_ok 31 rfl)
      · have h := (if_neg c38).symm.trans h
        refine lv_aload_n hx hb (zat zrX7_readAnswer_0_ok 22 rfl) rfl (lv_at hl 1 rfl) ?_
        refine lv_iconst (v := 0) hx hb (zat zrX7_readAnswer_0_ok 23 rfl) (by decide) ?_
        refine lv_aload_n hx hb (zat zrX7_readAnswer_0_ok 24 rfl) rfl (lv_at hl 2 rfl) ?_
        refine va_get (D := (dC, dI)) (ci := 4) (v := .int p_p.1) (C := RX6) (T := TX6) (N := 18) hx hb hts ifX7_readAnswer_X6 hown hK hP 0 rfl rfl 0 (by decide) (hts (.fieldLink RX7 82 "HookPier$Plan" "spots" "I") (List.mem_of_getElem? (i := 14) rfl)) (fun _ h9 => h9) rfl (zat zrX7_readAnswer_0_ok 25 rfl) ?_
        refine lv_iconst (v := 1) hx hb (zat zrX7_readAnswer_0_ok 26 rfl) (by decide) ?_
        refine lv_isub hx hb (zat zrX7_readAnswer_0_ok 27 rfl) ?_
        obtain ⟨o49, eo49, h⟩ := bd_of h
        refine ck_i (wc := (bX7 a0 ur kr o35.2 [])) (wr := (bX6 a1 up kp (p_p.1, p_p.2.1, p_p.2.2.1, p_p.2.2.2.1, p_p.2.2.2.2.1, p_p.2.2.2.2.2.1, p_p.2.2.2.2.2.2.1, p_p.2.2.2.2.2.2.2.1, p_p.2.2.2.2.2.2.2.2.1, p_p.2.2.2.2.2.2.2.2.2.1, (upd p_p.2.2.2.2.2.2.2.2.2.2.1 (p_p.2.2.2.2.2.2.1).toNatClampNeg o14.2.2.2.2.2.2.2.1), p_p.2.2.2.2.2.2.2.2.2.2.2) [])) hP hD hK hS hA [10, 11, 12, 13] [0, 1, 2, 3, 4, 5, 6, 7, 8, 9] rfl rfl (by decide) (by decide) (by decide) (fun hPc hDc => (va_runV (As := [.int 0, .int (p_p.1 - (1 : Int32))]) (rest := []) ⟨hx, hb, hml, hown, hts⟩ (kfX7_takeWhole l dC dI a0 (0 : Int32) (p_p.1 - (1 : Int32)) ur kr o35.2 H.size o49 eo49) (cwV 2 hts gfX7_readAnswer_3 rfl rfl rfl (by decide +kernel) ⟨(Nat.le_of_ble_eq_true rfl), (Nat.le_of_ble_eq_true rfl)⟩) (PV hPc (hK.sub (tys' := (tX7 kr ([]))) [0, 1, 2] rfl) hDc hN 0 rfl rfl) rfl rfl hl.1 rfl (lv_room (Nat.le_of_ble_eq_true rfl)) (zat zrX7_readAnswer_0_ok 28 rfl) ⟨(Nat.le_of_ble_eq_true rfl), (Nat.le_of_ble_eq_true rfl)⟩)) (fun r49 _ H locs hw hP hD _ hS => ?_)
        obtain ⟨hw, br49⟩ := hw
        obtain rfl := hw
        obtain ⟨hP, hD⟩ := pd_mk (bX6 a1 up kp (p_p.1, p_p.2.1, p_p.2.2.1, p_p.2.2.2.1, p_p.2.2.2.2.1, p_p.2.2.2.2.2.1, p_p.2.2.2.2.2.2.1, p_p.2.2.2.2.2.2.2.1, p_p.2.2.2.2.2.2.2.2.1, p_p.2.2.2.2.2.2.2.2.2.1, (upd p_p.2.2.2.2.2.2.2.2.2.2.1 (p_p.2.2.2.2.2.2.1).toNatClampNeg o14.2.2.2.2.2.2.2.1), p_p.2.2.2.2.2.2.2.2.2.2.2) (bX7 a0 ur kr o49.2 [])) hP hD
        refine lv_if_ne (tgt := 57) hx hb (zat zrX7_readAnswer_0_ok 29 rfl) (by decide) (fun c52 => ?_) (fun c52 => ?_)
        · have h := (if_neg c52).symm.trans h
          refine lv_aload_n hx hb (zat zrX7_readAnswer_0_ok 32 rfl) rfl (lv_at hl 2 rfl) ?_
          refine va_get (D := (dC, dI)) (ci := 4) (v := .ref (up 2)) (C := RX6) (T := TX6) (N := 18) hx hb hts ifX7_readAnswer_X6 hown hK hP 0 rfl rfl 11 (by decide) (hts (.fieldLink RX7 167 "HookPier$Plan" "at" "[I") (List.mem_of_getElem? (i := 18) rfl)) (fun _ h9 => h9) rfl (zat zrX7_readAnswer_0_ok 33 rfl) ?_
          refine lv_iload_n hx hb (zat zrX7_readAnswer_0_ok 34 rfl) rfl (lv_at hl 0 rfl) ?_
          refine lv_aload_n hx hb (zat zrX7_readAnswer_0_ok 35 rfl) rfl (lv_at hl 1 rfl) ?_
          refine va_get (D := (dC, dI)) (ci := 5) (v := .int o49.2.2.2.2.2.2.2.1) (C := RX7) (T := TX7) (N := 12) hx hb hts ifX7_readAnswer_X7 hown hK hP 10 rfl rfl 6 (by decide) (hts (.fieldLink RX7 31 "HookPier$Reader" "value" "I") (List.mem_of_getElem? (i := 10) rfl)) (fun _ h9 => h9) rfl (zat zrX7_readAnswer_0_ok 36 rfl) ?_
          obtain ⟨hg66, h⟩ := gA_of h
          refine va_iast hx hb hK hP hD hS 3 5 rfl rfl hg66 (zat zrX7_readAnswer_0_ok 37 rfl) (fun H locs hP hD hS => ?_)
          obtain ⟨hP, hD⟩ := pd_mk (bX6 a1 up kp (p_p.1, p_p.2.1, p_p.2.2.1, p_p.2.2.2.1, p_p.2.2.2.2.1, p_p.2.2.2.2.2.1, p_p.2.2.2.2.2.2.1, p_p.2.2.2.2.2.2.2.1, p_p.2.2.2.2.2.2.2.2.1, p_p.2.2.2.2.2.2.2.2.2.1, (upd p_p.2.2.2.2.2.2.2.2.2.2.1 (p_p.2.2.2.2.2.2.1).toNatClampNeg o14.2.2.2.2.2.2.2.1), (upd p_p.2.2.2.2.2.2.2.2.2.2.2.1 (p_p.2.2.2.2.2.2.1).toNatClampNeg o49.2.2.2.2.2.2.2.1), p_p.2.2.2.2.2.2.2.2.2.2.2.2) (bX7 a0 ur kr o49.2 [])) hP hD
          refine lv_aload_n hx hb (zat zrX7_readAnswer_0_ok 38 rfl) rfl (lv_at hl 1 rfl) ?_
          obtain ⟨s68, hs68, xs68⟩ := hE.1 (RX7, 169, "depth", tx_depth) (List.mem_of_getElem? (i := 16) rfl)
          refine va_ldcS hx hb hown hs68 (zat zrX7_readAnswer_0_ok 39 rfl) ?_
          obtain ⟨o70, eo70, h⟩ := bd_of h
          refine ck_i (wc := (bX7 a0 ur kr o49.2 [])) (wr := (bX6 a1 up kp (p_p.1, p_p.2.1, p_p.2.2.1, p_p.2.2.2.1, p_p.2.2.2.2.1, p_p.2.2.2.2.2.1, p_p.2.2.2.2.2.2.1, p_p.2.2.2.2.2.2.2.1, p_p.2.2.2.2.2.2.2.2.1, p_p.2.2.2.2.2.2.2.2.2.1, (upd p_p.2.2.2.2.2.2.2.2.2.2.1 (p_p.2.2.2.2.2.2.1).toNatClampNeg o14.2.2.2.2.2.2.2.1), (upd p_p.2.2.2.2.2.2.2.2.2.2.2.1 (p_p.2.2.2.2.2.2.1).toNatClampNeg o49.2.2.2.2.2.2.2.1), p_p.2.2.2.2.2.2.2.2.2.2.2.2) [])) hP hD hK hS hA [10, 11, 12, 13] [0, 1, 2, 3, 4, 5, 6, 7, 8, 9] rfl rfl (by decide) (by decide) (by decide) (fun hPc hDc => (va_runV (As := [.ref s68]) (rest := []) ⟨hx, hb, hml, hown, hts⟩ (kfX7_takeWord l dC dI a0 s68 tx_depth ur kr o49.2 H.size B o70 eo70) (cwV 1 hts gfX7_readAnswer_2 rfl rfl rfl (by decide +kernel) ⟨(Nat.le_of_ble_eq_true rfl), (Nat.le_of_ble_eq_true rfl)⟩) (PVF hPc (hK.sub (tys' := (tX7 kr ([]))) [0, 1, 2] rfl) hDc hN hS hB hE (S1c xs68 S1n) 0 rfl rfl) rfl rfl hl.1 rfl (lv_room (Nat.le_of_ble_eq_true rfl)) (zat zrX7_readAnswer_0_ok 40 rfl) ⟨(Nat.le_of_ble_eq_true rfl), (Nat.le_of_ble_eq_true rfl)⟩)) (fun r70 _ H locs hw hP hD _ hS => ?_)
          obtain ⟨hw, br70⟩ := hw
          obtain rfl := hw
          obtain ⟨hP, hD⟩ := pd_mk (bX6 a1 up kp (p_p.1, p_p.2.1, p_p.2.2.1, p_p.2.2.2.1, p_p.2.2.2.2.1, p_p.2.2.2.2.2.1, p_p.2.2.2.2.2.2.1, p_p.2.2.2.2.2.2.2.1, p_p.2.2.2.2.2.2.2.2.1, p_p.2.2.2.2.2.2.2.2.2.1, (upd p_p.2.2.2.2.2.2.2.2.2.2.1 (p_p.2.2.2.2.2.2.1).toNatClampNeg o14.2.2.2.2.2.2.2.1), (upd p_p.2.2.2.2.2.2.2.2.2.2.2.1 (p_p.2.2.2.2.2.2.1).toNatClampNeg o49.2.2.2.2.2.2.2.1), p_p.2.2.2.2.2.2.2.2.2.2.2.2) (bX7 a0 ur kr o70.2 [])) hP hD
          refine lv_if_eq (tgt := 88) hx hb (zat zrX7_readAnswer_0_ok 41 rfl) (by decide) (fun c73 => ?_) (fun c73 => ?_)
          · have h := (if_pos c73).symm.trans h
            refine lv_iconst (v := 0) hx hb (zat zrX7_readAnswer_0_ok 48 rfl) (by decide) ?_
            obtain rfl := Option.some.inj h
            obtain ⟨hP9, hD9⟩ := pd_sub (bX7 a0 ur kr o70.2 (bX6 a1 up kp (p_p.1, p_p.2.1, p_p.2.2.1, p_p.2.2.2.1, p_p.2.2.2.2.1, p_p.2.2.2.2.2.1, p_p.2.2.2.2.2.2.1, p_p.2.2.2.2.2.2.2.1, p_p.2.2.2.2.2.2.2.2.1, p_p.2.2.2.2.2.2.2.2.2.1, (upd p_p.2.2.2.2.2.2.2.2.2.2.1 (p_p.2.2.2.2.2.2.1).toNatClampNeg o14.2.2.2.2.2.2.2.1), (upd p_p.2.2.2.2.2.2.2.2.2.2.2.1 (p_p.2.2.2.2.2.2.1).toNatClampNeg o49.2.2.2.2.2.2.2.1), p_p.2.2.2.2.2.2.2.2.2.2.2.2) [])) [10, 11, 12, 13, 0, 1, 2, 3, 4, 5, 6, 7, 8, 9] hP hD (by decide) rfl
            have hK9 := hK.sub (tys' := []) [] rfl
            rw [hQQ]
            exact W.zret (v := (0 : Int32)) hx hb hr rfl (fun t ht hW => ⟨⟨(0 : Int32), (), rfl, ⟨rfl, (by decide)⟩, by rw [ht]; exact hP9, va_K.moved hW.alike hK9, hD9⟩, hS.F ht⟩) hS.2.2 (zat zrX7_readAnswer_0_ok 49 rfl)
          · have h := (if_neg c73).symm.trans h
            refine lv_aload_n hx hb (zat zrX7_readAnswer_0_ok 42 rfl) rfl (lv_at hl 1 rfl) ?_
            refine lv_iconst (v := 1) hx hb (zat zrX7_readAnswer_0_ok 43 rfl) (by decide) ?_
            refine lv_aload_n hx hb (zat zrX7_readAnswer_0_ok 44 rfl) rfl (lv_at hl 2 rfl) ?_
            refine va_get (D := (dC, dI)) (ci := 4) (v := .int p_p.2.1) (C := RX6) (T := TX6) (N := 18) hx hb hts ifX7_readAnswer_X6 hown hK hP 0 rfl rfl 1 (by decide) (hts (.fieldLink RX7 139 "HookPier$Plan" "deep" "I") (List.mem_of_getElem? (i := 19) rfl)) (fun _ h9 => h9) rfl (zat zrX7_readAnswer_0_ok 45 rfl) ?_
            obtain ⟨o82, eo82, h⟩ := bd_of h
            refine ck_i (wc := (bX7 a0 ur kr o70.2 [])) (wr := (bX6 a1 up kp (p_p.1, p_p.2.1, p_p.2.2.1, p_p.2.2.2.1, p_p.2.2.2.2.1, p_p.2.2.2.2.2.1, p_p.2.2.2.2.2.2.1, p_p.2.2.2.2.2.2.2.1, p_p.2.2.2.2.2.2.2.2.1, p_p.2.2.2.2.2.2.2.2.2.1, (upd p_p.2.2.2.2.2.2.2.2.2.2.1 (p_p.2.2.2.2.2.2.1).toNatClampNeg o14.2.2.2.2.2.2.2.1), (upd p_p.2.2.2.2.2.2.2.2.2.2.2.1 (p_p.2.2.2.2.2.2.1).toNatClampNeg o49.2.2.2.2.2.2.2.1), p_p.2.2.2.2.2.2.2.2.2.2.2.2) [])) hP hD hK hS hA [10, 11, 12, 13] [0, 1, 2, 3, 4, 5, 6, 7, 8, 9] rfl rfl (by decide) (by decide) (by decide) (fun hPc hDc => (va_runV (As := [.int 1, .int p_p.2.1]) (rest := []) ⟨hx, hb, hml, hown, hts⟩ (kfX7_takeWhole l dC dI a0 (1 : Int32) p_p.2.1 ur kr o70.2 H.size o82 eo82) (cwV 2 hts gfX7_readAnswer_3 rfl rfl rfl (by decide +kernel) ⟨(Nat.le_of_ble_eq_true rfl), (Nat.le_of_ble_eq_true rfl)⟩) (PV hPc (hK.sub (tys' := (tX7 kr ([]))) [0, 1, 2] rfl) hDc hN 0 rfl rfl) rfl rfl hl.1 rfl (lv_room (Nat.le_of_ble_eq_true rfl)) (zat zrX7_readAnswer_0_ok 46 rfl) ⟨(Nat.le_of_ble_eq_true rfl), (Nat.le_of_ble_eq_true rfl)⟩)) (fun r82 _ H locs hw hP hD _ hS => ?_)
            obtain ⟨hw, br82⟩ := hw
            obtain rfl := hw
            obtain ⟨hP, hD⟩ := pd_mk (bX6 a1 up kp (p_p.1, p_p.2.1, p_p.2.2.1, p_p.2.2.2.1, p_p.2.2.2.2.1, p_p.2.2.2.2.2.1, p_p.2.2.2.2.2.2.1, p_p.2.2.2.2.2.2.2.1, p_p.2.2.2.2.2.2.2.2.1, p_p.2.2.2.2.2.2.2.2.2.1, (upd p_p.2.2.2.2.2.2.2.2.2.2.1 (p_p.2.2.2.2.2.2.1).toNatClampNeg o14.2.2.2.2.2.2.2.1), (upd p_p.2.2.2.2.2.2.2.2.2.2.2.1 (p_p.2.2.2.2.2.2.1).toNatClampNeg o49.2.2.2.2.2.2.2.1), p_p.2.2.2.2.2.2.2.2.2.2.2.2) (bX7 a0 ur kr o82.2 [])) hP hD
            refine lv_if_ne (tgt := 90) hx hb (zat zrX7_readAnswer_0_ok 47 rfl) (by decide) (fun c85 => ?_) (fun c85 => ?_)
            · have h := (if_neg c85).symm.trans h
              refine lv_aload_n hx hb (zat zrX7_readAnswer_0_ok 50 rfl) rfl (lv_at hl 2 rfl) ?_
              refine va_get (D := (dC, dI)) (ci := 4) (v := .ref (up 3)) (C := RX6) (T := TX6) (N := 18) hx hb hts ifX7_readAnswer_X6 hown hK hP 0 rfl rfl 12 (by decide) (hts (.fieldLink RX7 171 "HookPier$Plan" "depth" "[I") (List.mem_of_getElem? (i := 20) rfl)) (fun _ h9 => h9) rfl (zat zrX7_readAnswer_0_ok 51 rfl) ?_
              refine lv_iload_n hx hb (zat zrX7_readAnswer_0_ok 52 rfl) rfl (lv_at hl 0 rfl) ?_
              refine lv_aload_n hx hb (zat zrX7_readAnswer_0_ok 53 rfl) rfl (lv_at hl 1 rfl) ?_
              refine va_get (D := (dC, dI)) (ci := 5) (v := .int o82.2.2.2.2.2.2.2.1) (C := RX7) (T := TX7) (N := 12) hx hb hts ifX7_readAnswer_X7 hown hK hP 10 rfl rfl 6 (by decide) (hts (.fieldLink RX7 31 "HookPier$Reader" "value" "I") (List.mem_of_getElem? (i := 10) rfl)) (fun _ h9 => h9) rfl (zat zrX7_readAnswer_0_ok 54 rfl) ?_
              obtain ⟨hg99, h⟩ := gA_of h
              refine va_iast hx hb hK hP hD hS 4 6 rfl rfl hg99 (zat zrX7_readAnswer_0_ok 55 rfl) (fun H locs hP hD hS => ?_)
              obtain ⟨hP, hD⟩ := pd_mk (bX6 a1 up kp (p_p.1, p_p.2.1, p_p.2.2.1, p_p.2.2.2.1, p_p.2.2.2.2.1, p_p.2.2.2.2.2.1, p_p.2.2.2.2.2.2.1, p_p.2.2.2.2.2.2.2.1, p_p.2.2.2.2.2.2.2.2.1, p_p.2.2.2.2.2.2.2.2.2.1, (upd p_p.2.2.2.2.2.2.2.2.2.2.1 (p_p.2.2.2.2.2.2.1).toNatClampNeg o14.2.2.2.2.2.2.2.1), (upd p_p.2.2.2.2.2.2.2.2.2.2.2.1 (p_p.2.2.2.2.2.2.1).toNatClampNeg o49.2.2.2.2.2.2.2.1), (upd p_p.2.2.2.2.2.2.2.2.2.2.2.2.1 (p_p.2.2.2.2.2.2.1).toNatClampNeg o82.2.2.2.2.2.2.2.1), p_p.2.2.2.2.2.2.2.2.2.2.2.2.2) (bX7 a0 ur kr o82.2 [])) hP hD
              refine lv_aload_n hx hb (zat zrX7_readAnswer_0_ok 56 rfl) rfl (lv_at hl 1 rfl) ?_
              obtain ⟨s101, hs101, xs101⟩ := hE.1 (RX7, 173, "hunger", tx_hunger) (List.mem_of_getElem? (i := 17) rfl)
              refine va_ldcS hx hb hown hs101 (zat zrX7_readAnswer_0_ok 57 rfl) ?_
              obtain ⟨o103, eo103, h⟩ := bd_of h
              refine ck_i (wc := (bX7 a0 ur kr o82.2 [])) (wr := (bX6 a1 up kp (p_p.1, p_p.2.1, p_p.2.2.1, p_p.2.2.2.1, p_p.2.2.2.2.1, p_p.2.2.2.2.2.1, p_p.2.2.2.2.2.2.1, p_p.2.2.2.2.2.2.2.1, p_p.2.2.2.2.2.2.2.2.1, p_p.2.2.2.2.2.2.2.2.2.1, (upd p_p.2.2.2.2.2.2.2.2.2.2.1 (p_p.2.2.2.2.2.2.1).toNatClampNeg o14.2.2.2.2.2.2.2.1), (upd p_p.2.2.2.2.2.2.2.2.2.2.2.1 (p_p.2.2.2.2.2.2.1).toNatClampNeg o49.2.2.2.2.2.2.2.1), (upd p_p.2.2.2.2.2.2.2.2.2.2.2.2.1 (p_p.2.2.2.2.2.2.1).toNatClampNeg o82.2.2.2.2.2.2.2.1), p_p.2.2.2.2.2.2.2.2.2.2.2.2.2) [])) hP hD hK hS hA [10, 11, 12, 13] [0, 1, 2, 3, 4, 5, 6, 7, 8, 9] rfl rfl (by decide) (by decide) (by decide) (fun hPc hDc => (va_runV (As := [.ref s101]) (rest := []) ⟨hx, hb, hml, hown, hts⟩ (kfX7_takeWord l dC dI a0 s101 tx_hunger ur kr o82.2 H.size B o103 eo103) (cwV 1 hts gfX7_readAnswer_2 rfl rfl rfl (by decide +kernel) ⟨(Nat.le_of_ble_eq_true rfl), (Nat.le_of_ble_eq_true rfl)⟩) (PVF hPc (hK.sub (tys' := (tX7 kr ([]))) [0, 1, 2] rfl) hDc hN hS hB hE (S1c xs101 S1n) 0 rfl rfl) rfl rfl hl.1 rfl (lv_room (Nat.le_of_ble_eq_true rfl)) (zat zrX7_readAnswer_0_ok 58 rfl) ⟨(Nat.le_of_ble_eq_true rfl), (Nat.le_of_ble_eq_true rfl)⟩)) (fun r103 _ H locs hw hP hD _ hS => ?_)
              obtain ⟨hw, br103⟩ := hw
              obtain rfl := hw
              obtain ⟨hP, hD⟩ := pd_mk (bX6 a1 up kp (p_p.1, p_p.2.1, p_p.2.2.1, p_p.2.2.2.1, p_p.2.2.2.2.1, p_p.2.2.2.2.2.1, p_p.2.2.2.2.2.2.1, p_p.2.2.2.2.2.2.2.1, p_p.2.2.2.2.2.2.2.2.1, p_p.2.2.2.2.2.2.2.2.2.1, (upd p_p.2.2.2.2.2.2.2.2.2.2.1 (p_p.2.2.2.2.2.2.1).toNatClampNeg o14.2.2.2.2.2.2.2.1), (upd p_p.2.2.2.2.2.2.2.2.2.2.2.1 (p_p.2.2.2.2.2.2.1).toNatClampNeg o49.2.2.2.2.2.2.2.1), (upd p_p.2.2.2.2.2.2.2.2.2.2.2.2.1 (p_p.2.2.2.2.2.2.1).toNatClampNeg o82.2.2.2.2.2.2.2.1), p_p.2.2.2.2.2.2.2.2.2.2.2.2.2) (bX7 a0 ur kr o103.2 [])) hP hD
              refine lv_if_eq (tgt := 119) hx hb (zat zrX7_readAnswer_0_ok 59 rfl) (by decide) (fun c106 => ?_) (fun c106 => ?_)
              · have h := (if_pos c106).symm.trans h
                refine lv_iconst (v := 0) hx hb (zat zrX7_readAnswer_1_ok 1 rfl) (by decide) ?_
                obtain rfl := Option.some.inj h
                obtain ⟨hP9, hD9⟩ := pd_sub (bX7 a0 ur kr o103.2 (bX6 a1 up kp (p_p.1, p_p.2.1, p_p.2.2.1, p_p.2.2.2.1, p_p.2.2.2.2.1, p_p.2.2.2.2.2.1, p_p.2.2.2.2.2.2.1, p_p.2.2.2.2.2.2.2.1, p_p.2.2.2.2.2.2.2.2.1, p_p.2.2.2.2.2.2.2.2.2.1, (upd p_p.2.2.2.2.2.2.2.2.2.2.1 (p_p.2.2.2.2.2.2.1).toNatClampNeg o14.2.2.2.2.2.2.2.1), (upd p_p.2.2.2.2.2.2.2.2.2.2.2.1 (p_p.2.2.2.2.2.2.1).toNatClampNeg o49.2.2.2.2.2.2.2.1), (upd p_p.2.2.2.2.2.2.2.2.2.2.2.2.1 (p_p.2.2.2.2.2.2.1).toNatClampNeg o82.2.2.2.2.2.2.2.1), p_p.2.2.2.2.2.2.2.2.2.2.2.2.2) [])) [10, 11, 12, 13, 0, 1, 2, 3, 4, 5, 6, 7, 8, 9] hP hD (by decide) rfl
                have hK9 := hK.sub (tys' := []) [] rfl
                rw [hQQ]
                exact W.zret (v := (0 : Int32)) hx hb hr rfl (fun t ht hW => ⟨⟨(0 : Int32), (), rfl, ⟨rfl, (by decide)⟩, by rw [ht]; exact hP9, va_K.moved hW.alike hK9, hD9⟩, hS.F ht⟩) hS.2.2 (zat zrX7_readAnswer_1_ok 2 rfl)
              · have h := (if_neg c106).symm.trans h
                refine lv_aload_n hx hb (zat zrX7_readAnswer_0_ok 60 rfl) rfl (lv_at hl 1 rfl) ?_
                refine lv_iconst (v := 0) hx hb (zat zrX7_readAnswer_0_ok 61 rfl) (by decide) ?_
                refine lv_bipush (v := 99) hx hb (zat zrX7_readAnswer_0_ok 62 rfl) (by decide) ?_
                obtain ⟨o113, eo113, h⟩ := bd_of h
                refine ck_i (wc := (bX7 a0 ur kr o103.2 [])) (wr := (bX6 a1 up kp (p_p.1, p_p.2.1, p_p.2.2.1, p_p.2.2.2.1, p_p.2.2.2.2.1, p_p.2.2.2.2.2.1, p_p.2.2.2.2.2.2.1, p_p.2.2.2.2.2.2.2.1, p_p.2.2.2.2.2.2.2.2.1, p_p.2.2.2.2.2.2.2.2.2.1, (upd p_p.2.2.2.2.2.2.2.2.2.2.1 (p_p.2.2.2.2.2.2.1).toNatClampNeg o14.2.2.2.2.2.2.2.1), (upd p_p.2.2.2.2.2.2.2.2.2.2.2.1 (p_p.2.2.2.2.2.2.1).toNatClampNeg o49.2.2.2.2.2.2.2.1), (upd p_p.2.2.2.2.2.2.2.2.2.2.2.2.1 (p_p.2.2.2.2.2.2.1).toNatClampNeg o82.2.2.2.2.2.2.2.1), p_p.2.2.2.2.2.2.2.2.2.2.2.2.2) [])) hP hD hK hS hA [10, 11, 12, 13] [0, 1, 2, 3, 4, 5, 6, 7, 8, 9] rfl rfl (by decide) (by decide) (by decide) (fun hPc hDc => (va_runV (As := [.int 0, .int 99]) (rest := []) ⟨hx, hb, hml, hown, hts⟩ (kfX7_takeWhole l dC dI a0 (0 : Int32) (99 : Int32) ur kr o103.2 H.size o113 eo113) (cwV 2 hts gfX7_readAnswer_3 rfl rfl rfl (by decide +kernel) ⟨(Nat.le_of_ble_eq_true rfl), (Nat.le_of_ble_eq_true rfl)⟩) (PV hPc (hK.sub (tys' := (tX7 kr ([]))) [0, 1, 2] rfl) hDc hN 0 rfl rfl) rfl rfl hl.1 rfl (lv_room (Nat.le_of_ble_eq_true rfl)) (zat zrX7_readAnswer_0_ok 63 rfl) ⟨(Nat.le_of_ble_eq_true rfl), (Nat.le_of_ble_eq_true rfl)⟩)) (fun r113 _ H locs hw hP hD _ hS => ?_)
                obtain ⟨hw, br113⟩ := hw
                obtain rfl := hw
                obtain ⟨hP, hD⟩ := pd_mk (bX6 a1 up kp (p_p.1, p_p.2.1, p_p.2.2.1, p_p.2.2.2.1, p_p.2.2.2.2.1, p_p.2.2.2.2.2.1, p_p.2.2.2.2.2.2.1, p_p.2.2.2.2.2.2.2.1, p_p.2.2.2.2.2.2.2.2.1, p_p.2.2.2.2.2.2.2.2.2.1, (upd p_p.2.2.2.2.2.2.2.2.2.2.1 (p_p.2.2.2.2.2.2.1).toNatClampNeg o14.2.2.2.2.2.2.2.1), (upd p_p.2.2.2.2.2.2.2.2.2.2.2.1 (p_p.2.2.2.2.2.2.1).toNatClampNeg o49.2.2.2.2.2.2.2.1), (upd p_p.2.2.2.2.2.2.2.2.2.2.2.2.1 (p_p.2.2.2.2.2.2.1).toNatClampNeg o82.2.2.2.2.2.2.2.1), p_p.2.2.2.2.2.2.2.2.2.2.2.2.2) (bX7 a0 ur kr o113.2 [])) hP hD
                refine lv_if_ne (tgt := 121) hx hb (zat zrX7_readAnswer_1_ok 0 rfl) (by decide) (fun c116 => ?_) (fun c116 => ?_)
                · have h := (if_neg c116).symm.trans h
                  refine lv_aload_n hx hb (zat zrX7_readAnswer_1_ok 3 rfl) rfl (lv_at hl 2 rfl) ?_
                  refine va_get (D := (dC, dI)) (ci := 4) (v := .ref (up 4)) (C := RX6) (T := TX6) (N := 18) hx hb hts ifX7_readAnswer_X6 hown hK hP 0 rfl rfl 13 (by decide) (hts (.fieldLink RX7 175 "HookPier$Plan" "hunger" "[I") (List.mem_of_getElem? (i := 21) rfl)) (fun _ h9 => h9) rfl (zat zrX7_readAnswer_1_ok 4 rfl) ?_
                  refine lv_iload_n hx hb (zat zrX7_readAnswer_1_ok 5 rfl) rfl (lv_at hl 0 rfl) ?_
                  refine lv_aload_n hx hb (zat zrX7_readAnswer_1_ok 6 rfl) rfl (lv_at hl 1 rfl) ?_
                  refine va_get (D := (dC, dI)) (ci := 5) (v := .int o113.2.2.2.2.2.2.2.1) (C := RX7) (T := TX7) (N := 12) hx hb hts ifX7_readAnswer_X7 hown hK hP 10 rfl rfl 6 (by decide) (hts (.fieldLink RX7 31 "HookPier$Reader" "value" "I") (List.mem_of_getElem? (i := 10) rfl)) (fun _ h9 => h9) rfl (zat zrX7_readAnswer_1_ok 7 rfl) ?_
                  obtain ⟨hg130, h⟩ := gA_of h
                  refine va_iast hx hb hK hP hD hS 5 7 rfl rfl hg130 (zat zrX7_readAnswer_1_ok 8 rfl) (fun H locs hP hD hS => ?_)
                  obtain ⟨hP, hD⟩ := pd_mk (bX6 a1 up kp (p_p.1, p_p.2.1, p_p.2.2.1, p_p.2.2.2.1, p_p.2.2.2.2.1, p_p.2.2.2.2.2.1, p_p.2.2.2.2.2.2.1, p_p.2.2.2.2.2.2.2.1, p_p.2.2.2.2.2.2.2.2.1, p_p.2.2.2.2.2.2.2.2.2.1, (upd p_p.2.2.2.2.2.2.2.2.2.2.1 (p_p.2.2.2.2.2.2.1).toNatClampNeg o14.2.2.2.2.2.2.2.1), (upd p_p.2.2.2.2.2.2.2.2.2.2.2.1 (p_p.2.2.2.2.2.2.1).toNatClampNeg o49.2.2.2.2.2.2.2.1), (upd p_p.2.2.2.2.2.2.2.2.2.2.2.2.1 (p_p.2.2.2.2.2.2.1).toNatClampNeg o82.2.2.2.2.2.2.2.1), (upd p_p.2.2.2.2.2.2.2.2.2.2.2.2.2.1 (p_p.2.2.2.2.2.2.1).toNatClampNeg o113.2.2.2.2.2.2.2.1), p_p.2.2.2.2.2.2.2.2.2.2.2.2.2.2) (bX7 a0 ur kr o113.2 [])) hP hD
                  refine lv_aload_n hx hb (zat zrX7_readAnswer_1_ok 9 rfl) rfl (lv_at hl 1 rfl) ?_
                  obtain ⟨s132, hs132, xs132⟩ := hE.1 (RX7, 177, "likes", tx_likes) (List.mem_of_getElem? (i := 18) rfl)
                  refine va_ldcS hx hb hown hs132 (zat zrX7_readAnswer_1_ok 10 rfl) ?_
                  obtain ⟨o134, eo134, h⟩ := bd_of h
                  refine ck_i (wc := (bX7 a0 ur kr o113.2 [])) (wr := (bX6 a1 up kp (p_p.1, p_p.2.1, p_p.2.2.1, p_p.2.2.2.1, p_p.2.2.2.2.1, p_p.2.2.2.2.2.1, p_p.2.2.2.2.2.2.1, p_p.2.2.2.2.2.2.2.1, p_p.2.2.2.2.2.2.2.2.1, p_p.2.2.2.2.2.2.2.2.2.1, (upd p_p.2.2.2.2.2.2.2.2.2.2.1 (p_p.2.2.2.2.2.2.1).toNatClampNeg o14.2.2.2.2.2.2.2.1), (upd p_p.2.2.2.2.2.2.2.2.2.2.2.1 (p_p.2.2.2.2.2.2.1).toNatClampNeg o49.2.2.2.2.2.2.2.1), (upd p_p.2.2.2.2.2.2.2.2.2.2.2.2.1 (p_p.2.2.2.2.2.2.1).toNatClampNeg o82.2.2.2.2.2.2.2.1), (upd p_p.2.2.2.2.2.2.2.2.2.2.2.2.2.1 (p_p.2.2.2.2.2.2.1).toNatClampNeg o113.2.2.2.2.2.2.2.1), p_p.2.2.2.2.2.2.2.2.2.2.2.2.2.2) [])) hP hD hK hS hA [10, 11, 12, 13] [0, 1, 2, 3, 4, 5, 6, 7, 8, 9] rfl rfl (by decide) (by decide) (by decide) (fun hPc hDc => (va_runV (As := [.ref s132]) (rest := []) ⟨hx, hb, hml, hown, hts⟩ (kfX7_takeWord l dC dI a0 s132 tx_likes ur kr o113.2 H.size B o134 eo134) (cwV 1 hts gfX7_readAnswer_2 rfl rfl rfl (by decide +kernel) ⟨(Nat.le_of_ble_eq_true rfl), (Nat.le_of_ble_eq_true rfl)⟩) (PVF hPc (hK.sub (tys' := (tX7 kr ([]))) [0, 1, 2] rfl) hDc hN hS hB hE (S1c xs132 S1n) 0 rfl rfl) rfl rfl hl.1 rfl (lv_room (Nat.le_of_ble_eq_true rfl)) (zat zrX7_readAnswer_1_ok 11 rfl) ⟨(Nat.le_of_ble_eq_true rfl), (Nat.le_of_ble_eq_true rfl)⟩)) (fun r134 _ H locs hw hP hD _ hS => ?_)
                  obtain ⟨hw, br134⟩ := hw
                  obtain rfl := hw
                  obtain ⟨hP, hD⟩ := pd_mk (bX6 a1 up kp (p_p.1, p_p.2.1, p_p.2.2.1, p_p.2.2.2.1, p_p.2.2.2.2.1, p_p.2.2.2.2.2.1, p_p.2.2.2.2.2.2.1, p_p.2.2.2.2.2.2.2.1, p_p.2.2.2.2.2.2.2.2.1, p_p.2.2.2.2.2.2.2.2.2.1, (upd p_p.2.2.2.2.2.2.2.2.2.2.1 (p_p.2.2.2.2.2.2.1).toNatClampNeg o14.2.2.2.2.2.2.2.1), (upd p_p.2.2.2.2.2.2.2.2.2.2.2.1 (p_p.2.2.2.2.2.2.1).toNatClampNeg o49.2.2.2.2.2.2.2.1), (upd p_p.2.2.2.2.2.2.2.2.2.2.2.2.1 (p_p.2.2.2.2.2.2.1).toNatClampNeg o82.2.2.2.2.2.2.2.1), (upd p_p.2.2.2.2.2.2.2.2.2.2.2.2.2.1 (p_p.2.2.2.2.2.2.1).toNatClampNeg o113.2.2.2.2.2.2.2.1), p_p.2.2.2.2.2.2.2.2.2.2.2.2.2.2) (bX7 a0 ur kr o134.2 [])) hP hD
                  refine lv_if_eq (tgt := 147) hx hb (zat zrX7_readAnswer_1_ok 12 rfl) (by decide) (fun c137 => ?_) (fun c137 => ?_)
                  · have h := (if_pos c137).symm.trans h
                    refine lv_iconst (v := 0) hx hb (zat zrX7_readAnswer_1_ok 16 rfl) (by decide) ?_
                    obtain rfl := Option.some.inj h
                    obtain ⟨hP9, hD9⟩ := pd_sub (bX7 a0 ur kr o134.2 (bX6 a1 up kp (p_p.1, p_p.2.1, p_p.2.2.1, p_p.2.2.2.1, p_p.2.2.2.2.1, p_p.2.2.2.2.2.1, p_p.2.2.2.2.2.2.1, p_p.2.2.2.2.2.2.2.1, p_p.2.2.2.2.2.2.2.2.1, p_p.2.2.2.2.2.2.2.2.2.1, (upd p_p.2.2.2.2.2.2.2.2.2.2.1 (p_p.2.2.2.2.2.2.1).toNatClampNeg o14.2.2.2.2.2.2.2.1), (upd p_p.2.2.2.2.2.2.2.2.2.2.2.1 (p_p.2.2.2.2.2.2.1).toNatClampNeg o49.2.2.2.2.2.2.2.1), (upd p_p.2.2.2.2.2.2.2.2.2.2.2.2.1 (p_p.2.2.2.2.2.2.1).toNatClampNeg o82.2.2.2.2.2.2.2.1), (upd p_p.2.2.2.2.2.2.2.2.2.2.2.2.2.1 (p_p.2.2.2.2.2.2.1).toNatClampNeg o113.2.2.2.2.2.2.2.1), p_p.2.2.2.2.2.2.2.2.2.2.2.2.2.2) [])) [10, 11, 12, 13, 0, 1, 2, 3, 4, 5, 6, 7, 8, 9] hP hD (by decide) rfl
                    have hK9 := hK.sub (tys' := []) [] rfl
                    rw [hQQ]
                    exact W.zret (v := (0 : Int32)) hx hb hr rfl (fun t ht hW => ⟨⟨(0 : Int32), (), rfl, ⟨rfl, (by decide)⟩, by rw [ht]; exact hP9, va_K.moved hW.alike hK9, hD9⟩, hS.F ht⟩) hS.2.2 (zat zrX7_readAnswer_1_ok 17 rfl)
                  · have h := (if_neg c137).symm.trans h
                    refine lv_aload_n hx hb (zat zrX7_readAnswer_1_ok 13 rfl) rfl (lv_at hl 1 rfl) ?_
                    obtain ⟨o141, eo141, h⟩ := bd_of h
                    refine ck_i (wc := (bX7 a0 ur kr o134.2 [])) (wr := (bX6 a1 up kp (p_p.1, p_p.2.1, p_p.2.2.1, p_p.2.2.2.1, p_p.2.2.2.2.1, p_p.2.2.2.2.2.1, p_p.2.2.2.2.2.2.1, p_p.2.2.2.2.2.2.2.1, p_p.2.2.2.2.2.2.2.2.1, p_p.2.2.2.2.2.2.2.2.2.1, (upd p_p.2.2.2.2.2.2.2.2.2.2.1 (p_p.2.2.2.2.2.2.1).toNatClampNeg o14.2.2.2.2.2.2.2.1), (upd p_p.2.2.2.2.2.2.2.2.2.2.2.1 (p_p.2.2.2.2.2.2.1).toNatClampNeg o49.2.2.2.2.2.2.2.1), (upd p_p.2.2.2.2.2.2.2.2.2.2.2.2.1 (p_p.2.2.2.2.2.2.1).toNatClampNeg o82.2.2.2.2.2.2.2.1), (upd p_p.2.2.2.2.2.2.2.2.2.2.2.2.2.1 (p_p.2.2.2.2.2.2.1).toNatClampNeg o113.2.2.2.2.2.2.2.1), p_p.2.2.2.2.2.2.2.2.2.2.2.2.2.2) [])) hP hD hK hS hA [10, 11, 12, 13] [0, 1, 2, 3, 4, 5, 6, 7, 8, 9] rfl rfl (by decide) (by decide) (by decide) (fun hPc hDc => (va_runV (As := []) (rest := []) ⟨hx, hb, hml, hown, hts⟩ (kfX7_takeBait l dC dI a0 ur kr o134.2 H.size B o141 eo141) (cwV 0 hts gfX7_readAnswer_4 rfl rfl rfl (by decide +kernel) ⟨(Nat.le_of_ble_eq_true rfl), (Nat.le_of_ble_eq_true rfl)⟩) (PVF hPc (hK.sub (tys' := (tX7 kr ([]))) [0, 1, 2] rfl) hDc hN hS hB hE S1n 0 rfl rfl) rfl rfl hl.1 rfl (lv_room (Nat.le_of_ble_eq_true rfl)) (zat zrX7_readAnswer_1_ok 14 rfl) ⟨(Nat.le_of_ble_eq_true rfl), (Nat.le_of_ble_eq_true rfl)⟩)) (fun r141 _ H locs hw hP hD _ hS => ?_)
                    obtain ⟨hw, br141⟩ := hw
                    obtain rfl := hw
                    obtain ⟨hP, hD⟩ := pd_mk (bX6 a1 up kp (p_p.1, p_p.2.1, p_p.2.2.1, p_p.2.2.2.1, p_p.2.2.2.2.1, p_p.2.2.2.2.2.1, p_p.2.2.2.2.2.2.1, p_p.2.2.2.2.2.2.2.1, p_p.2.2.2.2.2.2.2.2.1, p_p.2.2.2.2.2.2.2.2.2.1, (upd p_p.2.2.2.2.2.2.2.2.2.2.1 (p_p.2.2.2.2.2.2.1).toNatClampNeg o14.2.2.2.2.2.2.2.1), (upd p_p.2.2.2.2.2.2.2.2.2.2.2.1 (p_p.2.2.2.2.2.2.1).toNatClampNeg o49.2.2.2.2.2.2.2.1), (upd p_p.2.2.2.2.2.2.2.2.2.2.2.2.1 (p_p.2.2.2.2.2.2.1).toNatClampNeg o82.2.2.2.2.2.2.2.1), (upd p_p.2.2.2.2.2.2.2.2.2.2.2.2.2.1 (p_p.2.2.2.2.2.2.1).toNatClampNeg o113.2.2.2.2.2.2.2.1), p_p.2.2.2.2.2.2.2.2.2.2.2.2.2.2) (bX7 a0 ur kr o141.2 [])) hP hD
                    refine lv_if_ne (tgt := 149) hx hb (zat zrX7_readAnswer_1_ok 15 rfl) (by decide) (fun c144 => ?_) (fun c144 => ?_)
                    · have h := (if_neg c144).symm.trans h
                      refine lv_aload_n hx hb (zat zrX7_readAnswer_1_ok 18 rfl) rfl (lv_at hl 2 rfl) ?_
                      refine va_get (D := (dC, dI)) (ci := 4) (v := .ref (up 5)) (C := RX6) (T := TX6) (N := 18) hx hb hts ifX7_readAnswer_X6 hown hK hP 0 rfl rfl 14 (by decide) (hts (.fieldLink RX7 182 "HookPier$Plan" "likes" "[I") (List.mem_of_getElem? (i := 25) rfl)) (fun _ h9 => h9) rfl (zat zrX7_readAnswer_1_ok 19 rfl) ?_
                      refine lv_iload_n hx hb (zat zrX7_readAnswer_1_ok 20 rfl) rfl (lv_at hl 0 rfl) ?_
                      refine lv_aload_n hx hb (zat zrX7_readAnswer_1_ok 21 rfl) rfl (lv_at hl 1 rfl) ?_
                      refine va_get (D := (dC, dI)) (ci := 5) (v := .int o141.2.2.2.2.2.2.2.1) (C := RX7) (T := TX7) (N := 12) hx hb hts ifX7_readAnswer_X7 hown hK hP 10 rfl rfl 6 (by decide) (hts (.fieldLink RX7 31 "HookPier$Reader" "value" "I") (List.mem_of_getElem? (i := 10) rfl)) (fun _ h9 => h9) rfl (zat zrX7_readAnswer_1_ok 22 rfl) ?_
                      obtain ⟨hg158, h⟩ := gA_of h
                      refine va_iast hx hb hK hP hD hS 6 8 rfl rfl hg158 (zat zrX7_readAnswer_1_ok 23 rfl) (fun H locs hP hD hS => ?_)
                      obtain ⟨hP, hD⟩ := pd_mk (bX6 a1 up kp (p_p.1, p_p.2.1, p_p.2.2.1, p_p.2.2.2.1, p_p.2.2.2.2.1, p_p.2.2.2.2.2.1, p_p.2.2.2.2.2.2.1, p_p.2.2.2.2.2.2.2.1, p_p.2.2.2.2.2.2.2.2.1, p_p.2.2.2.2.2.2.2.2.2.1, (upd p_p.2.2.2.2.2.2.2.2.2.2.1 (p_p.2.2.2.2.2.2.1).toNatClampNeg o14.2.2.2.2.2.2.2.1), (upd p_p.2.2.2.2.2.2.2.2.2.2.2.1 (p_p.2.2.2.2.2.2.1).toNatClampNeg o49.2.2.2.2.2.2.2.1), (upd p_p.2.2.2.2.2.2.2.2.2.2.2.2.1 (p_p.2.2.2.2.2.2.1).toNatClampNeg o82.2.2.2.2.2.2.2.1), (upd p_p.2.2.2.2.2.2.2.2.2.2.2.2.2.1 (p_p.2.2.2.2.2.2.1).toNatClampNeg o113.2.2.2.2.2.2.2.1), (upd p_p.2.2.2.2.2.2.2.2.2.2.2.2.2.2.1 (p_p.2.2.2.2.2.2.1).toNatClampNeg o141.2.2.2.2.2.2.2.1), p_p.2.2.2.2.2.2.2.2.2.2.2.2.2.2.2) (bX7 a0 ur kr o141.2 [])) hP hD
                      refine lv_aload_n hx hb (zat zrX7_readAnswer_1_ok 24 rfl) rfl (lv_at hl 1 rfl) ?_
                      obtain ⟨s160, hs160, xs160⟩ := hE.1 (RX7, 184, "worth", tx_worth) (List.mem_of_getElem? (i := 19) rfl)
                      refine va_ldcS hx hb hown hs160 (zat zrX7_readAnswer_1_ok 25 rfl) ?_
                      obtain ⟨o162, eo162, h⟩ := bd_of h
                      refine ck_i (wc := (bX7 a0 ur kr o141.2 [])) (wr := (bX6 a1 up kp (p_p.1, p_p.2.1, p_p.2.2.1, p_p.2.2.2.1, p_p.2.2.2.2.1, p_p.2.2.2.2.2.1, p_p.2.2.2.2.2.2.1, p_p.2.2.2.2.2.2.2.1, p_p.2.2.2.2.2.2.2.2.1, p_p.2.2.2.2.2.2.2.2.2.1, (upd p_p.2.2.2.2.2.2.2.2.2.2.1 (p_p.2.2.2.2.2.2.1).toNatClampNeg o14.2.2.2.2.2.2.2.1), (upd p_p.2.2.2.2.2.2.2.2.2.2.2.1 (p_p.2.2.2.2.2.2.1).toNatClampNeg o49.2.2.2.2.2.2.2.1), (upd p_p.2.2.2.2.2.2.2.2.2.2.2.2.1 (p_p.2.2.2.2.2.2.1).toNatClampNeg o82.2.2.2.2.2.2.2.1), (upd p_p.2.2.2.2.2.2.2.2.2.2.2.2.2.1 (p_p.2.2.2.2.2.2.1).toNatClampNeg o113.2.2.2.2.2.2.2.1), (upd p_p.2.2.2.2.2.2.2.2.2.2.2.2.2.2.1 (p_p.2.2.2.2.2.2.1).toNatClampNeg o141.2.2.2.2.2.2.2.1), p_p.2.2.2.2.2.2.2.2.2.2.2.2.2.2.2) [])) hP hD hK hS hA [10, 11, 12, 13] [0, 1, 2, 3, 4, 5, 6, 7, 8, 9] rfl rfl (by decide) (by decide) (by decide) (fun hPc hDc => (va_runV (As := [.ref s160]) (rest := []) ⟨hx, hb, hml, hown, hts⟩ (kfX7_takeWord l dC dI a0 s160 tx_worth ur kr o141.2 H.size B o162 eo162) (cwV 1 hts gfX7_readAnswer_2 rfl rfl rfl (by decide +kernel) ⟨(Nat.le_of_ble_eq_true rfl), (Nat.le_of_ble_eq_true rfl)⟩) (PVF hPc (hK.sub (tys' := (tX7 kr ([]))) [0, 1, 2] rfl) hDc hN hS hB hE (S1c xs160 S1n) 0 rfl rfl) rfl rfl hl.1 rfl (lv_room (Nat.le_of_ble_eq_true rfl)) (zat zrX7_readAnswer_1_ok 26 rfl) ⟨(Nat.le_of_ble_eq_true rfl), (Nat.le_of_ble_eq_true rfl)⟩)) (fun r162 _ H locs hw hP hD _ hS => ?_)
                      obtain ⟨hw, br162⟩ := hw
                      obtain rfl := hw
                      obtain ⟨hP, hD⟩ := pd_mk (bX6 a1 up kp (p_p.1, p_p.2.1, p_p.2.2.1, p_p.2.2.2.1, p_p.2.2.2.2.1, p_p.2.2.2.2.2.1, p_p.2.2.2.2.2.2.1, p_p.2.2.2.2.2.2.2.1, p_p.2.2.2.2.2.2.2.2.1, p_p.2.2.2.2.2.2.2.2.2.1, (upd p_p.2.2.2.2.2.2.2.2.2.2.1 (p_p.2.2.2.2.2.2.1).toNatClampNeg o14.2.2.2.2.2.2.2.1), (upd p_p.2.2.2.2.2.2.2.2.2.2.2.1 (p_p.2.2.2.2.2.2.1).toNatClampNeg o49.2.2.2.2.2.2.2.1), (upd p_p.2.2.2.2.2.2.2.2.2.2.2.2.1 (p_p.2.2.2.2.2.2.1).toNatClampNeg o82.2.2.2.2.2.2.2.1), (upd p_p.2.2.2.2.2.2.2.2.2.2.2.2.2.1 (p_p.2.2.2.2.2.2.1).toNatClampNeg o113.2.2.2.2.2.2.2.1), (upd p_p.2.2.2.2.2.2.2.2.2.2.2.2.2.2.1 (p_p.2.2.2.2.2.2.1).toNatClampNeg o141.2.2.2.2.2.2.2.1), p_p.2.2.2.2.2.2.2.2.2.2.2.2.2.2.2) (bX7 a0 ur kr o162.2 [])) hP hD
                      refine lv_if_eq (tgt := 178) hx hb (zat zrX7_readAnswer_1_ok 27 rfl) (by decide) (fun c165 => ?_) (fun c165 => ?_)
                      · have h := (if_pos c165).symm.trans h
                        refine lv_iconst (v := 0) hx hb (zat zrX7_readAnswer_1_ok 33 rfl) (by decide) ?_
                        obtain rfl := Option.some.inj h
                        obtain ⟨hP9, hD9⟩ := pd_sub (bX7 a0 ur kr o162.2 (bX6 a1 up kp (p_p.1, p_p.2.1, p_p.2.2.1, p_p.2.2.2.1, p_p.2.2.2.2.1, p_p.2.2.2.2.2.1, p_p.2.2.2.2.2.2.1, p_p.2.2.2.2.2.2.2.1, p_p.2.2.2.2.2.2.2.2.1, p_p.2.2.2.2.2.2.2.2.2.1, (upd p_p.2.2.2.2.2.2.2.2.2.2.1 (p_p.2.2.2.2.2.2.1).toNatClampNeg o14.2.2.2.2.2.2.2.1), (upd p_p.2.2.2.2.2.2.2.2.2.2.2.1 (p_p.2.2.2.2.2.2.1).toNatClampNeg o49.2.2.2.2.2.2.2.1), (upd p_p.2.2.2.2.2.2.2.2.2.2.2.2.1 (p_p.2.2.2.2.2.2.1).toNatClampNeg o82.2.2.2.2.2.2.2.1), (upd p_p.2.2.2.2.2.2.2.2.2.2.2.2.2.1 (p_p.2.2.2.2.2.2.1).toNatClampNeg o113.2.2.2.2.2.2.2.1), (upd p_p.2.2.2.2.2.2.2.2.2.2.2.2.2.2.1 (p_p.2.2.2.2.2.2.1).toNatClampNeg o141.2.2.2.2.2.2.2.1), p_p.2.2.2.2.2.2.2.2.2.2.2.2.2.2.2) [])) [10, 11, 12, 13, 0, 1, 2, 3, 4, 5, 6, 7, 8, 9] hP hD (by decide) rfl
                        have hK9 := hK.sub (tys' := []) [] rfl
                        rw [hQQ]
                        exact W.zret (v := (0 : Int32)) hx hb hr rfl (fun t ht hW => ⟨⟨(0 : Int32), (), rfl, ⟨rfl, (by decide)⟩, by rw [ht]; exact hP9, va_K.moved hW.alike hK9, hD9⟩, hS.F ht⟩) hS.2.2 (zat zrX7_readAnswer_1_ok 34 rfl)
                      · have h := (if_neg c165).symm.trans h
                        refine lv_aload_n hx hb (zat zrX7_readAnswer_1_ok 28 rfl) rfl (lv_at hl 1 rfl) ?_
                        refine lv_iconst (v := 0) hx hb (zat zrX7_readAnswer_1_ok 29 rfl) (by decide) ?_
                        refine lv_bipush (v := 99) hx hb (zat zrX7_readAnswer_1_ok 30 rfl) (by decide) ?_
                        obtain ⟨o172, eo172, h⟩ := bd_of h
                        refine ck_i (wc := (bX7 a0 ur kr o162.2 [])) (wr := (bX6 a1 up kp (p_p.1, p_p.2.1, p_p.2.2.1, p_p.2.2.2.1, p_p.2.2.2.2.1, p_p.2.2.2.2.2.1, p_p.2.2.2.2.2.2.1, p_p.2.2.2.2.2.2.2.1, p_p.2.2.2.2.2.2.2.2.1, p_p.2.2.2.2.2.2.2.2.2.1, (upd p_p.2.2.2.2.2.2.2.2.2.2.1 (p_p.2.2.2.2.2.2.1).toNatClampNeg o14.2.2.2.2.2.2.2.1), (upd p_p.2.2.2.2.2.2.2.2.2.2.2.1 (p_p.2.2.2.2.2.2.1).toNatClampNeg o49.2.2.2.2.2.2.2.1), (upd p_p.2.2.2.2.2.2.2.2.2.2.2.2.1 (p_p.2.2.2.2.2.2.1).toNatClampNeg o82.2.2.2.2.2.2.2.1), (upd p_p.2.2.2.2.2.2.2.2.2.2.2.2.2.1 (p_p.2.2.2.2.2.2.1).toNatClampNeg o113.2.2.2.2.2.2.2.1), (upd p_p.2.2.2.2.2.2.2.2.2.2.2.2.2.2.1 (p_p.2.2.2.2.2.2.1).toNatClampNeg o141.2.2.2.2.2.2.2.1), p_p.2.2.2.2.2.2.2.2.2.2.2.2.2.2.2) [])) hP hD hK hS hA [10, 11, 12, 13] [0, 1, 2, 3, 4, 5, 6, 7, 8, 9] rfl rfl (by decide) (by decide) (by decide) (fun hPc hDc => (va_runV (As := [.int 0, .int 99]) (rest := []) ⟨hx, hb, hml, hown, hts⟩ (kfX7_takeWhole l dC dI a0 (0 : Int32) (99 : Int32) ur kr o162.2 H.size o172 eo172) (cwV 2 hts gfX7_readAnswer_3 rfl rfl rfl (by decide +kernel) ⟨(Nat.le_of_ble_eq_true rfl), (Nat.le_of_ble_eq_true rfl)⟩) (PV hPc (hK.sub (tys' := (tX7 kr ([]))) [0, 1, 2] rfl) hDc hN 0 rfl rfl) rfl rfl hl.1 rfl (lv_room (Nat.le_of_ble_eq_true rfl)) (zat zrX7_readAnswer_1_ok 31 rfl) ⟨(Nat.le_of_ble_eq_true rfl), (Nat.le_of_ble_eq_true rfl)⟩)) (fun r172 _ H locs hw hP hD _ hS => ?_)
                        obtain ⟨hw, br172⟩ := hw
                        obtain rfl := hw
                        obtain ⟨hP, hD⟩ := pd_mk (bX6 a1 up kp (p_p.1, p_p.2.1, p_p.2.2.1, p_p.2.2.2.1, p_p.2.2.2.2.1, p_p.2.2.2.2.2.1, p_p.2.2.2.2.2.2.1, p_p.2.2.2.2.2.2.2.1, p_p.2.2.2.2.2.2.2.2.1, p_p.2.2.2.2.2.2.2.2.2.1, (upd p_p.2.2.2.2.2.2.2.2.2.2.1 (p_p.2.2.2.2.2.2.1).toNatClampNeg o14.2.2.2.2.2.2.2.1), (upd p_p.2.2.2.2.2.2.2.2.2.2.2.1 (p_p.2.2.2.2.2.2.1).toNatClampNeg o49.2.2.2.2.2.2.2.1), (upd p_p.2.2.2.2.2.2.2.2.2.2.2.2.1 (p_p.2.2.2.2.2.2.1).toNatClampNeg o82.2.2.2.2.2.2.2.1), (upd p_p.2.2.2.2.2.2.2.2.2.2.2.2.2.1 (p_p.2.2.2.2.2.2.1).toNatClampNeg o113.2.2.2.2.2.2.2.1), (upd p_p.2.2.2.2.2.2.2.2.2.2.2.2.2.2.1 (p_p.2.2.2.2.2.2.1).toNatClampNeg o141.2.2.2.2.2.2.2.1), p_p.2.2.2.2.2.2.2.2.2.2.2.2.2.2.2) (bX7 a0 ur kr o172.2 [])) hP hD
                        refine lv_if_ne (tgt := 180) hx hb (zat zrX7_readAnswer_1_ok 32 rfl) (by decide) (fun c175 => ?_) (fun c175 => ?_)
                        · have h := (if_neg c175).symm.trans h
                          refine lv_aload_n hx hb (zat zrX7_readAnswer_1_ok 35 rfl) rfl (lv_at hl 2 rfl) ?_
                          refine va_get (D := (dC, dI)) (ci := 4) (v := .ref (up 6)) (C := RX6) (T := TX6) (N := 18) hx hb hts ifX7_readAnswer_X6 hown hK hP 0 rfl rfl 15 (by decide) (hts (.fieldLink RX7 186 "HookPier$Plan" "told" "[I") (List.mem_of_getElem? (i := 26) rfl)) (fun _ h9 => h9) rfl (zat zrX7_readAnswer_1_ok 36 rfl) ?_
                          refine lv_iload_n hx hb (zat zrX7_readAnswer_1_ok 37 rfl) rfl (lv_at hl 0 rfl) ?_
                          refine lv_aload_n hx hb (zat zrX7_readAnswer_1_ok 38 rfl) rfl (lv_at hl 1 rfl) ?_
                          refine va_get (D := (dC, dI)) (ci := 5) (v := .int o172.2.2.2.2.2.2.2.1) (C := RX7) (T := TX7) (N := 12) hx hb hts ifX7_readAnswer_X7 hown hK hP 10 rfl rfl 6 (by decide) (hts (.fieldLink RX7 31 "HookPier$Reader" "value" "I") (List.mem_of_getElem? (i := 10) rfl)) (fun _ h9 => h9) rfl (zat zrX7_readAnswer_1_ok 39 rfl) ?_
                          obtain ⟨hg189, h⟩ := gA_of h
                          refine va_iast hx hb hK hP hD hS 7 9 rfl rfl hg189 (zat zrX7_readAnswer_1_ok 40 rfl) (fun H locs hP hD hS => ?_)
                          obtain ⟨hP, hD⟩ := pd_mk (bX6 a1 up kp (p_p.1, p_p.2.1, p_p.2.2.1, p_p.2.2.2.1, p_p.2.2.2.2.1, p_p.2.2.2.2.2.1, p_p.2.2.2.2.2.2.1, p_p.2.2.2.2.2.2.2.1, p_p.2.2.2.2.2.2.2.2.1, p_p.2.2.2.2.2.2.2.2.2.1, (upd p_p.2.2.2.2.2.2.2.2.2.2.1 (p_p.2.2.2.2.2.2.1).toNatClampNeg o14.2.2.2.2.2.2.2.1), (upd p_p.2.2.2.2.2.2.2.2.2.2.2.1 (p_p.2.2.2.2.2.2.1).toNatClampNeg o49.2.2.2.2.2.2.2.1), (upd p_p.2.2.2.2.2.2.2.2.2.2.2.2.1 (p_p.2.2.2.2.2.2.1).toNatClampNeg o82.2.2.2.2.2.2.2.1), (upd p_p.2.2.2.2.2.2.2.2.2.2.2.2.2.1 (p_p.2.2.2.2.2.2.1).toNatClampNeg o113.2.2.2.2.2.2.2.1), (upd p_p.2.2.2.2.2.2.2.2.2.2.2.2.2.2.1 (p_p.2.2.2.2.2.2.1).toNatClampNeg o141.2.2.2.2.2.2.2.1), (upd p_p.2.2.2.2.2.2.2.2.2.2.2.2.2.2.2.1 (p_p.2.2.2.2.2.2.1).toNatClampNeg o172.2.2.2.2.2.2.2.1), p_p.2.2.2.2.2.2.2.2.2.2.2.2.2.2.2.2) (bX7 a0 ur kr o172.2 [])) hP hD
                          refine lv_aload_n hx hb (zat zrX7_readAnswer_1_ok 41 rfl) rfl (lv_at hl 2 rfl) ?_
                          refine lv_dup hx hb (zat zrX7_readAnswer_1_ok 42 rfl) rfl ?_
                          refine va_get (D := (dC, dI)) (ci := 4) (v := .int p_p.2.2.2.2.2.2.1) (C := RX6) (T := TX6) (N := 18) hx hb hts ifX7_readAnswer_X6 hown hK hP 0 rfl rfl 6 (by decide) (hts (.fieldLink RX7 107 "HookPier$Plan" "answers" "I") (List.mem_of_getElem? (i := 1) rfl)) (fun _ h9 => h9) rfl (zat zrX7_readAnswer_1_ok 43 rfl) ?_
                          refine lv_iconst (v := 1) hx hb (zat zrX7_readAnswer_1_ok 44 rfl) (by decide) ?_
                          refine lv_iadd hx hb (zat zrX7_readAnswer_1_ok 45 rfl) ?_
                          refine va_put (D := (dC, dI)) (ci := 4) (v := .int (p_p.2.2.2.2.2.2.1 + (1 : Int32))) (ty := .int) (C := RX6) (T := TX6) (N := 18) hx hb hts ifX7_readAnswer_X6 tyX6 tyX6_ok nmX6 hown hK hP hD hS 0 rfl rfl 6 (by decide) (hts (.fieldLink RX7 107 "HookPier$Plan" "answers" "I") (List.mem_of_getElem? (i := 1) rfl)) (fun _ h9 => h9) rfl (by decide +kernel) rfl rfl (Nat.le_of_ble_eq_true rfl) (zat zrX7_readAnswer_1_ok 46 rfl) (fun H locs hP hD hS => ?_)
                          obtain ⟨hP, hD⟩ := pd_mk (bX6 a1 up kp (p_p.1, p_p.2.1, p_p.2.2.1, p_p.2.2.2.1, p_p.2.2.2.2.1, p_p.2.2.2.2.2.1, (p_p.2.2.2.2.2.2.1 + (1 : Int32)), p_p.2.2.2.2.2.2.2.1, p_p.2.2.2.2.2.2.2.2.1, p_p.2.2.2.2.2.2.2.2.2.1, (upd p_p.2.2.2.2.2.2.2.2.2.2.1 (p_p.2.2.2.2.2.2.1).toNatClampNeg o14.2.2.2.2.2.2.2.1), (upd p_p.2.2.2.2.2.2.2.2.2.2.2.1 (p_p.2.2.2.2.2.2.1).toNatClampNeg o49.2.2.2.2.2.2.2.1), (upd p_p.2.2.2.2.2.2.2.2.2.2.2.2.1 (p_p.2.2.2.2.2.2.1).toNatClampNeg o82.2.2.2.2.2.2.2.1), (upd p_p.2.2.2.2.2.2.2.2.2.2.2.2.2.1 (p_p.2.2.2.2.2.2.1).toNatClampNeg o113.2.2.2.2.2.2.2.1), (upd p_p.2.2.2.2.2.2.2.2.2.2.2.2.2.2.1 (p_p.2.2.2.2.2.2.1).toNatClampNeg o141.2.2.2.2.2.2.2.1), (upd p_p.2.2.2.2.2.2.2.2.2.2.2.2.2.2.2.1 (p_p.2.2.2.2.2.2.1).toNatClampNeg o172.2.2.2.2.2.2.2.1), p_p.2.2.2.2.2.2.2.2.2.2.2.2.2.2.2.2) (bX7 a0 ur kr o172.2 [])) hP hD
                          refine lv_iconst (v := 1) hx hb (zat zrX7_readAnswer_1_ok 47 rfl) (by decide) ?_
                          obtain rfl := Option.some.inj h
                          obtain ⟨hP9, hD9⟩ := pd_sub (bX7 a0 ur kr o172.2 (bX6 a1 up kp (p_p.1, p_p.2.1, p_p.2.2.1, p_p.2.2.2.1, p_p.2.2.2.2.1, p_p.2.2.2.2.2.1, (p_p.2.2.2.2.2.2.1 + (1 : Int32)), p_p.2.2.2.2.2.2.2.1, p_p.2.2.2.2.2.2.2.2.1, p_p.2.2.2.2.2.2.2.2.2.1, (upd p_p.2.2.2.2.2.2.2.2.2.2.1 (p_p.2.2.2.2.2.2.1).toNatClampNeg o14.2.2.2.2.2.2.2.1), (upd p_p.2.2.2.2.2.2.2.2.2.2.2.1 (p_p.2.2.2.2.2.2.1).toNatClampNeg o49.2.2.2.2.2.2.2.1), (upd p_p.2.2.2.2.2.2.2.2.2.2.2.2.1 (p_p.2.2.2.2.2.2.1).toNatClampNeg o82.2.2.2.2.2.2.2.1), (upd p_p.2.2.2.2.2.2.2.2.2.2.2.2.2.1 (p_p.2.2.2.2.2.2.1).toNatClampNeg o113.2.2.2.2.2.2.2.1), (upd p_p.2.2.2.2.2.2.2.2.2.2.2.2.2.2.1 (p_p.2.2.2.2.2.2.1).toNatClampNeg o141.2.2.2.2.2.2.2.1), (upd p_p.2.2.2.2.2.2.2.2.2.2.2.2.2.2.2.1 (p_p.2.2.2.2.2.2.1).toNatClampNeg o172.2.2.2.2.2.2.2.1), p_p.2.2.2.2.2.2.2.2.2.2.2.2.2.2.2.2) [])) [10, 11, 12, 13, 0, 1, 2, 3, 4, 5, 6, 7, 8, 9] hP hD (by decide) rfl
                          have hK9 := hK.sub (tys' := []) [] rfl
                          rw [hQQ]
                          exact W.zret (v := (1 : Int32)) hx hb hr rfl (fun t ht hW => ⟨⟨(1 : Int32), (), rfl, ⟨rfl, (by decide)⟩, by rw [ht]; exact hP9, va_K.moved hW.alike hK9, hD9⟩, hS.F ht⟩) hS.2.2 (zat zrX7_readAnswer_1_ok 48 rfl)
                        · have h := (if_pos c175).symm.trans h
                          refine lv_iconst (v := 0) hx hb (zat zrX7_readAnswer_1_ok 33 rfl) (by decide) ?_
                          obtain rfl := Option.some.inj h
                          obtain ⟨hP9, hD9⟩ := pd_sub (bX7 a0 ur kr o172.2 (bX6 a1 up kp (p_p.1, p_p.2.1, p_p.2.2.1, p_p.2.2.2.1, p_p.2.2.2.2.1, p_p.2.2.2.2.2.1, p_p.2.2.2.2.2.2.1, p_p.2.2.2.2.2.2.2.1, p_p.2.2.2.2.2.2.2.2.1, p_p.2.2.2.2.2.2.2.2.2.1, (upd p_p.2.2.2.2.2.2.2.2.2.2.1 (p_p.2.2.2.2.2.2.1).toNatClampNeg o14.2.2.2.2.2.2.2.1), (upd p_p.2.2.2.2.2.2.2.2.2.2.2.1 (p_p.2.2.2.2.2.2.1).toNatClampNeg o49.2.2.2.2.2.2.2.1), (upd p_p.2.2.2.2.2.2.2.2.2.2.2.2.1 (p_p.2.2.2.2.2.2.1).toNatClampNeg o82.2.2.2.2.2.2.2.1), (upd p_p.2.2.2.2.2.2.2.2.2.2.2.2.2.1 (p_p.2.2.2.2.2.2.1).toNatClampNeg o113.2.2.2.2.2.2.2.1), (upd p_p.2.2.2.2.2.2.2.2.2.2.2.2.2.2.1 (p_p.2.2.2.2.2.2.1).toNatClampNeg o141.2.2.2.2.2.2.2.1), p_p.2.2.2.2.2.2.2.2.2.2.2.2.2.2.2) [])) [10, 11, 12, 13, 0, 1, 2, 3, 4, 5, 6, 7, 8, 9] hP hD (by decide) rfl
                          have hK9 := hK.sub (tys' := []) [] rfl
                          rw [hQQ]
                          exact W.zret (v := (0 : Int32)) hx hb hr rfl (fun t ht hW => ⟨⟨(0 : Int32), (), rfl, ⟨rfl, (by decide)⟩, by rw [ht]; exact hP9, va_K.moved hW.alike hK9, hD9⟩, hS.F ht⟩) hS.2.2 (zat zrX7_readAnswer_1_ok 34 rfl)
                    · have h := (if_pos c144).symm.trans h
                      refine lv_iconst (v := 0) hx hb (zat zrX7_readAnswer_1_ok 16 rfl) (by decide) ?_
                      obtain rfl := Option.some.inj h
                      obtain ⟨hP9, hD9⟩ := pd_sub (bX7 a0 ur kr o141.2 (bX6 a1 up kp (p_p.1, p_p.2.1, p_p.2.2.1, p_p.2.2.2.1, p_p.2.2.2.2.1, p_p.2.2.2.2.2.1, p_p.2.2.2.2.2.2.1, p_p.2.2.2.2.2.2.2.1, p_p.2.2.2.2.2.2.2.2.1, p_p.2.2.2.2.2.2.2.2.2.1, (upd p_p.2.2.2.2.2.2.2.2.2.2.1 (p_p.2.2.2.2.2.2.1).toNatClampNeg o14.2.2.2.2.2.2.2.1), (upd p_p.2.2.2.2.2.2.2.2.2.2.2.1 (p_p.2.2.2.2.2.2.1).toNatClampNeg o49.2.2.2.2.2.2.2.1), (upd p_p.2.2.2.2.2.2.2.2.2.2.2.2.1 (p_p.2.2.2.2.2.2.1).toNatClampNeg o82.2.2.2.2.2.2.2.1), (upd p_p.2.2.2.2.2.2.2.2.2.2.2.2.2.1 (p_p.2.2.2.2.2.2.1).toNatClampNeg o113.2.2.2.2.2.2.2.1), p_p.2.2.2.2.2.2.2.2.2.2.2.2.2.2) [])) [10, 11, 12, 13, 0, 1, 2, 3, 4, 5, 6, 7, 8, 9] hP hD (by decide) rfl
                      have hK9 := hK.sub (tys' := []) [] rfl
                      rw [hQQ]
                      exact W.zret (v := (0 : Int32)) hx hb hr rfl (fun t ht hW => ⟨⟨(0 : Int32), (), rfl, ⟨rfl, (by decide)⟩, by rw [ht]; exact hP9, va_K.moved hW.alike hK9, hD9⟩, hS.F ht⟩) hS.2.2 (zat zrX7_readAnswer_1_ok 17 rfl)
                · have h := (if_pos c116).symm.trans h
                  refine lv_iconst (v := 0) hx hb (zat zrX7_readAnswer_1_ok 1 rfl) (by decide) ?_
                  obtain rfl := Option.some.inj h
                  obtain ⟨hP9, hD9⟩ := pd_sub (bX7 a0 ur kr o113.2 (bX6 a1 up kp (p_p.1, p_p.2.1, p_p.2.2.1, p_p.2.2.2.1, p_p.2.2.2.2.1, p_p.2.2.2.2.2.1, p_p.2.2.2.2.2.2.1, p_p.2.2.2.2.2.2.2.1, p_p.2.2.2.2.2.2.2.2.1, p_p.2.2.2.2.2.2.2.2.2.1, (upd p_p.2.2.2.2.2.2.2.2.2.2.1 (p_p.2.2.2.2.2.2.1).toNatClampNeg o14.2.2.2.2.2.2.2.1), (upd p_p.2.2.2.2.2.2.2.2.2.2.2.1 (p_p.2.2.2.2.2.2.1).toNatClampNeg o49.2.2.2.2.2.2.2.1), (upd p_p.2.2.2.2.2.2.2.2.2.2.2.2.1 (p_p.2.2.2.2.2.2.1).toNatClampNeg o82.2.2.2.2.2.2.2.1), p_p.2.2.2.2.2.2.2.2.2.2.2.2.2) [])) [10, 11, 12, 13, 0, 1, 2, 3, 4, 5, 6, 7, 8, 9] hP hD (by decide) rfl
                  have hK9 := hK.sub (tys' := []) [] rfl
                  rw [hQQ]
                  exact W.zret (v := (0 : Int32)) hx hb hr rfl (fun t ht hW => ⟨⟨(0 : Int32), (), rfl, ⟨rfl, (by decide)⟩, by rw [ht]; exact hP9, va_K.moved hW.alike hK9, hD9⟩, hS.F ht⟩) hS.2.2 (zat zrX7_readAnswer_1_ok 2 rfl)
            · have h := (if_pos c85).symm.trans h
              refine lv_iconst (v := 0) hx hb (zat zrX7_readAnswer_0_ok 48 rfl) (by decide) ?_
              obtain rfl := Option.some.inj h
              obtain ⟨hP9, hD9⟩ := pd_sub (bX7 a0 ur kr o82.2 (bX6 a1 up kp (p_p.1, p_p.2.1, p_p.2.2.1, p_p.2.2.2.1, p_p.2.2.2.2.1, p_p.2.2.2.2.2.1, p_p.2.2.2.2.2.2.1, p_p.2.2.2.2.2.2.2.1, p_p.2.2.2.2.2.2.2.2.1, p_p.2.2.2.2.2.2.2.2.2.1, (upd p_p.2.2.2.2.2.2.2.2.2.2.1 (p_p.2.2.2.2.2.2.1).toNatClampNeg o14.2.2.2.2.2.2.2.1), (upd p_p.2.2.2.2.2.2.2.2.2.2.2.1 (p_p.2.2.2.2.2.2.1).toNatClampNeg o49.2.2.2.2.2.2.2.1), p_p.2.2.2.2.2.2.2.2.2.2.2.2) [])) [10, 11, 12, 13, 0, 1, 2, 3, 4, 5, 6, 7, 8, 9] hP hD (by decide) rfl
              have hK9 := hK.sub (tys' := []) [] rfl
              rw [hQQ]
              exact W.zret (v := (0 : Int32)) hx hb hr rfl (fun t ht hW => ⟨⟨(0 : Int32), (), rfl, ⟨rfl, (by decide)⟩, by rw [ht]; exact hP9, va_K.moved hW.alike hK9, hD9⟩, hS.F ht⟩) hS.2.2 (zat zrX7_readAnswer_0_ok 49 rfl)
        · have h := (if_pos c52).symm.trans h
          refine lv_iconst (v := 0) hx hb (zat zrX7_readAnswer_0_ok 30 rfl) (by decide) ?_
          obtain rfl := Option.some.inj h
          obtain ⟨hP9, hD9⟩ := pd_sub (bX7 a0 ur kr o49.2 (bX6 a1 up kp (p_p.1, p_p.2.1, p_p.2.2.1, p_p.2.2.2.1, p_p.2.2.2.2.1, p_p.2.2.2.2.2.1, p_p.2.2.2.2.2.2.1, p_p.2.2.2.2.2.2.2.1, p_p.2.2.2.2.2.2.2.2.1, p_p.2.2.2.2.2.2.2.2.2.1, (upd p_p.2.2.2.2.2.2.2.2.2.2.1 (p_p.2.2.2.2.2.2.1).toNatClampNeg o14.2.2.2.2.2.2.2.1), p_p.2.2.2.2.2.2.2.2.2.2.2) [])) [10, 11, 12, 13, 0, 1, 2, 3, 4, 5, 6, 7, 8, 9] hP hD (by decide) rfl
          have hK9 := hK.sub (tys' := []) [] rfl
          rw [hQQ]
          exact W.zret (v := (0 : Int32)) hx hb hr rfl (fun t ht hW => ⟨⟨(0 : Int32), (), rfl, ⟨rfl, (by decide)⟩, by rw [ht]; exact hP9, va_K.moved hW.alike hK9, hD9⟩, hS.F ht⟩) hS.2.2 (zat zrX7_readAnswer_0_ok 31 rfl)
    · have h := (if_pos c17).symm.trans h
      refine lv_iconst (v := 0) hx hb (zat zrX7_readAnswer_0_ok 10 rfl) (by decide) ?_
      obtain rfl := Option.some.inj h
      obtain ⟨hP9, hD9⟩ := pd_sub (bX7 a0 ur kr o14.2 (bX6 a1 up kp p_p [])) [10, 11, 12, 13, 0, 1, 2, 3, 4, 5, 6, 7, 8, 9] hP hD (by decide) rfl
      have hK9 := hK.sub (tys' := []) [] rfl
      rw [hQQ]
      exact W.zret (v := (0 : Int32)) hx hb hr rfl (fun t ht hW => ⟨⟨(0 : Int32), (), rfl, ⟨rfl, (by decide)⟩, by rw [ht]; exact hP9, va_K.moved hW.alike hK9, hD9⟩, hS.F ht⟩) hS.2.2 (zat zrX7_readAnswer_0_ok 11 rfl)
noncomputable def zrX7_readDark_0 : List ZR := zc 0 true (.aload_n 0) 1 (zc 1 true (.ldc 173) 2 (zc 3 true (.invokevirtual 130) 3 (zc 6 true (.ifCond .eq 13) 3 (zc 9 true (.aload_n 0) 1 (zc 10 true (.iconst 0) 1 (zc 11 true (.bipush 99) 2 (zc 13 true (.invokevirtual 133) 3 (zc 16 true (.ifCond .ne 5) 3 (zc 19 true (.iconst 0) 1 (zc 20 true (.ireturn) 1 (zc 21 true (.aload_n 1) 1 (zc 22 true (.aload_n 0) 1 (zc 23 true (.getfield 31) 3 (zc 26 true (.putfield 115) 3 (zc 29 true (.iconst 1) 1 (zc 30 true (.ireturn) 1 ([])))))))))))))))))
theorem zrX7_readDark_0_ok : zck 0 ((zby cX7_readDark).drop 0) zrX7_readDark_0 = true := by decide +kernel
def vfX7_readDark : List Cond := List.cons (.code yX7_readDark cX7_readDark 2 (some .boolean)) (apW [.methodLink RX7 130 yX7_takeWord, .instanceMethod yX7_takeWord, .selects RX7 yX7_takeWord yX7_takeWord, .initialized RX7, .methodLink RX7 133 yX7_takeWhole, .instanceMethod yX7_takeWhole, .selects RX7 yX7_takeWhole yX7_takeWhole, .fieldLink RX7 31 "HookPier$Reader" "value" "I", .fieldLink RX7 115 "HookPier$Plan" "darkHunger" "I"] (apW wsX70 (apW wsX60 (apW vfX7_takeWord (vfX7_takeWhole)))))
theorem ifX7_readDark_X7 : ∀ w ∈ wsX70, w ∈ vfX7_readDark := fun _ h => (List.mem_cons_of_mem _ (List.mem_append_right _ (List.mem_append_left _ h)))
theorem ifX7_readDark_X6 : ∀ w ∈ wsX60, w ∈ vfX7_readDark := fun _ h => (List.mem_cons_of_mem _ (List.mem_append_right _ (List.mem_append_right _ (List.mem_append_left _ h))))
theorem qfX7_readDark : Good vfX7_readDark := gd_cons (by decide +kernel) (gd_app (gd_dec (by decide +kernel) : Good [.methodLink RX7 130 yX7_takeWord, .instanceMethod yX7_takeWord, .selects RX7 yX7_takeWord yX7_takeWord, .initialized RX7, .methodLink RX7 133 yX7_takeWhole, .instanceMethod yX7_takeWhole, .selects RX7 yX7_takeWhole yX7_takeWhole, .fieldLink RX7 31 "HookPier$Reader" "value" "I", .fieldLink RX7 115 "HookPier$Plan" "darkHunger" "I"]) (gd_app qsX7 (gd_app qsX6 (gd_app qfX7_takeWord qfX7_takeWhole))))
theorem gfX7_readDark_0 : GoodIn vfX7_readDark (wsV RX7 130 RX7 yX7_takeWord vfX7_takeWord) := goodIn_app (goodIn_r [.methodLink RX7 130 yX7_takeWord, .instanceMethod yX7_takeWord, .selects RX7 yX7_takeWord yX7_takeWord, .initialized RX7] [1, 2, 3, 4] rfl (by decide +kernel)) (goodIn_m (fun _ h => (List.mem_cons_of_mem _ (List.mem_append_right _ (List.mem_append_right _ (List.mem_append_right _ (List.mem_append_left _ h)))))) qfX7_takeWord)
theorem gfX7_readDark_1 : GoodIn vfX7_readDark (wsV RX7 133 RX7 yX7_takeWhole vfX7_takeWhole) := goodIn_app (goodIn_r [.methodLink RX7 133 yX7_takeWhole, .instanceMethod yX7_takeWhole, .selects RX7 yX7_takeWhole yX7_takeWhole, .initialized RX7] [5, 6, 7, 4] rfl (by decide +kernel)) (goodIn_m (fun _ h => (List.mem_cons_of_mem _ (List.mem_append_right _ (List.mem_append_right _ (List.mem_append_right _ (List.mem_append_right _ h)))))) qfX7_takeWhole)
set_option maxHeartbeats 2000000 in
set_option maxRecDepth 100000 in
theorem kfX7_readDark (l : Launch) (dC : Nat → ClassId) (dI : Nat → Nat → Nat) (a0 : Nat) (a1 : Nat) (ur : Nat → Nat) (kr : Nat → ClassId) (up : Nat → Nat) (kp : Nat → ClassId) (r_r : TX7_r) (p_p : TX6_p) (sz : Nat) (B : Nat) (out : (Int32 × TX7_r × TX6_p)) (h : f_X7_readDark r_r p_p = some out) : Met l yX7_readDark vfX7_readDark ({ frames := 6, cells := 0, slots := 0, locals := 128 }) (PF (dC, dI) B [.ref a0, .ref a1] sz (bX7 a0 ur kr r_r (bX6 a1 up kp p_p [])) (tX7 kr (tX6 kp ([]))) []) (va_Qi (S := Unit) (fun (r : Int32) _ => r = out.1 ∧ (0 ≤ r.toInt ∧ r.toInt ≤ 1)) (fun _ t => BC (dC, dI) (va_A (bX7 a0 ur kr r_r (bX6 a1 up kp p_p [])) sz) (bX7 a0 ur kr out.2.1 (bX6 a1 up kp out.2.2 [])) [] t) (va_A (bX7 a0 ur kr r_r (bX6 a1 up kp p_p [])) sz)) 0 0 (va_A (bX7 a0 ur kr r_r (bX6 a1 up kp p_p [])) sz) := by
  refine Met.ofW (cc := cX7_readDark) (maxL := 2) (ret := (some .boolean)) (by decide) rfl ?_
  intro p e s m args below meth c s₁ B0 hml hv
  obtain ⟨rfl, hsz, hP, hK, hD0, hN, hBs, hE, hX⟩ := hv
  have hBA := PF_reg hD0 hBs
  have hx := B0.exec
  have hb := B0.bytes
  have hr := B0.returns
  have hts := atoms_spec (ws := vfX7_readDark) B0.pre
  have hown : s.vm.findClass RX7 = some m.cls := findClass_of_methodNamed B0.named
  have hlocks := B0.notSynchronized
  subst hsz
  have hD := hD0.self (sz := s.heap.size)
  generalize hAe : va_A (bX7 a0 ur kr r_r (bX6 a1 up kp p_p [])) s.heap.size = A at hD hBA ⊢
  have hA : ∀ q : Nat, s.heap.size ≤ q → A q := fun q h => by rw [← hAe]; exact Or.inr h
  have hS : va_S A s.heap s.heap [] := va_S.rf
  have hP : va_P (dC, dI) vwCl (bX7 a0 ur kr r_r (bX6 a1 up kp p_p [])) s.heap := hP
  have hl := lv_entry ([.ref a0, .ref a1]) (n := 2) (Nat.le_of_ble_eq_true rfl)
  rw [lg_entry_eq]
  generalize (lg_sl ([.ref a0, .ref a1]) ++ List.replicate (2 - (lg_sl ([.ref a0, .ref a1])).length) Slot.unset).toArray = ls at hl ⊢
  have hl : lv_has ls 2 [(0, .ref a0), (1, .ref a1)] := hl
  have hB : RB B s A := ⟨hBA, hBs⟩
  refine W_q (fun QQ hQQ => ?_)
  rw [f_X7_readDark] at h
  refine lv_aload_n hx hb (zat zrX7_readDark_0_ok 0 rfl) rfl (lv_at hl 0 rfl) ?_
  obtain ⟨s1, hs1, xs1⟩ := hE.1 (RX7, 173, "hunger", tx_hunger) (List.mem_of_getElem? (i := 17) rfl)
  refine va_ldcS hx hb hown hs1 (zat zrX7_readDark_0_ok 1 rfl) ?_
  obtain ⟨o3, eo3, h⟩ := bd_of h
  refine ck_i (wc := (bX7 a0 ur kr r_r [])) (wr := (bX6 a1 up kp p_p [])) hP hD hK hS hA [0, 1, 2, 3] [4, 5, 6, 7, 8, 9, 10, 11, 12, 13] rfl rfl (by decide) (by decide) (by decide) (fun hPc hDc => (va_runV (As := [.ref s1]) (rest := []) ⟨hx, hb, hml, hown, hts⟩ (kfX7_takeWord l dC dI a0 s1 tx_hunger ur kr r_r s.heap.size B o3 eo3) (cwV 1 hts gfX7_readDark_0 rfl rfl rfl (by decide +kernel) ⟨(Nat.le_of_ble_eq_true rfl), (Nat.le_of_ble_eq_true rfl)⟩) (PVF hPc (hK.sub (tys' := (tX7 kr ([]))) [0, 1, 2] rfl) hDc hN hS hB hE (S1c xs1 S1n) 0 rfl rfl) rfl rfl hl.1 rfl (lv_room (Nat.le_of_ble_eq_true rfl)) (zat zrX7_readDark_0_ok 2 rfl) ⟨(Nat.le_of_ble_eq_true rfl), (Nat.le_of_ble_eq_true rfl)⟩)) (fun r3 _ H locs hw hP hD _ hS => ?_)
  obtain ⟨hw, br3⟩ := hw
  obtain rfl := hw
  obtain ⟨hP, hD⟩ := pd_mk (bX6 a1 up kp p_p (bX7 a0 ur kr o3.2 [])) hP hD
  refine lv_if_eq (tgt := 19) hx hb (zat zrX7_readDark_0_ok 3 rfl) (by decide) (fun c6 => ?_) (fun c6 => ?_)
  · have h := (if_pos c6).symm.trans h
    refine lv_iconst (v := 0) hx hb (zat zrX7_readDark_0_ok 9 rfl) (by decide) ?_
    obtain rfl := Option.some.inj h
    obtain ⟨hP9, hD9⟩ := pd_sub (bX7 a0 ur kr o3.2 (bX6 a1 up kp p_p [])) [10, 11, 12, 13, 0, 1, 2, 3, 4, 5, 6, 7, 8, 9] hP hD (by decide) rfl
    have hK9 := hK.sub (tys' := []) [] rfl
    rw [hQQ]
    exact W.zret (v := (0 : Int32)) hx hb hr rfl (fun t ht hW => ⟨⟨(0 : Int32), (), rfl, ⟨rfl, (by decide)⟩, by rw [ht]; exact hP9, va_K.moved hW.alike hK9, hD9⟩, hS.F ht⟩) hS.2.2 (zat zrX7_readDark_0_ok 10 rfl)
  · have h := (if_neg c6).symm.trans h
    refine lv_aload_n hx hb (zat zrX7_readDark_0_ok 4 rfl) rfl (lv_at hl 0 rfl) ?_
    refine lv_iconst (v := 0) hx hb (zat zrX7_readDark_0_ok 5 rfl) (by decide) ?_
    refine lv_bipush (v := 99) hx hb (zat zrX7_readDark_0_ok 6 rfl) (by decide) ?_
    obtain ⟨o13, eo13, h⟩ := bd_of h
    refine ck_i (wc := (bX7 a0 ur kr o3.2 [])) (wr := (bX6 a1 up kp p_p [])) hP hD hK hS hA [10, 11, 12, 13] [0, 1, 2, 3, 4, 5, 6, 7, 8, 9] rfl rfl (by decide) (by decide) (by decide) (fun hPc hDc => (va_runV (As := [.int 0, .int 99]) (rest := []) ⟨hx, hb, hml, hown, hts⟩ (kfX7_takeWhole l dC dI a0 (0 : Int32) (99 : Int32) ur kr o3.2 H.size o13 eo13) (cwV 2 hts gfX7_readDark_1 rfl rfl rfl (by decide +kernel) ⟨(Nat.le_of_ble_eq_true rfl), (Nat.le_of_ble_eq_true rfl)⟩) (PV hPc (hK.sub (tys' := (tX7 kr ([]))) [0, 1, 2] rfl) hDc hN 0 rfl rfl) rfl rfl hl.1 rfl (lv_room (Nat.le_of_ble_eq_true rfl)) (zat zrX7_readDark_0_ok 7 rfl) ⟨(Nat.le_of_ble_eq_true rfl), (Nat.le_of_ble_eq_true rfl)⟩)) (fun r13 _ H locs hw hP hD _ hS => ?_)
    obtain ⟨hw, br13⟩ := hw
    obtain rfl := hw
    obtain ⟨hP, hD⟩ := pd_mk (bX6 a1 up kp p_p (bX7 a0 ur kr o13.2 [])) hP hD
    refine lv_if_ne (tgt := 21) hx hb (zat zrX7_readDark_0_ok 8 rfl) (by decide) (fun c16 => ?_) (fun c16 => ?_)
    · have h := (if_neg c16).symm.trans h
      refine lv_aload_n hx hb (zat zrX7_readDark_0_ok 11 rfl) rfl (lv_at hl 1 rfl) ?_
      refine lv_aload_n hx hb (zat zrX7_readDark_0_ok 12 rfl) rfl (lv_at hl 0 rfl) ?_
      refine va_get (D := (dC, dI)) (ci := 5) (v := .int o13.2.2.2.2.2.2.2.1) (C := RX7) (T := TX7) (N := 12) hx hb hts ifX7_readDark_X7 hown hK hP 10 rfl rfl 6 (by decide) (hts (.fieldLink RX7 31 "HookPier$Reader" "value" "I") (List.mem_of_getElem? (i := 8) rfl)) (fun _ h9 => h9) rfl (zat zrX7_readDark_0_ok 13 rfl) ?_
      refine va_put (D := (dC, dI)) (ci := 4) (v := .int o13.2.2.2.2.2.2.2.1) (ty := .int) (C := RX6) (T := TX6) (N := 18) hx hb hts ifX7_readDark_X6 tyX6 tyX6_ok nmX6 hown hK hP hD hS 0 rfl rfl 8 (by decide) (hts (.fieldLink RX7 115 "HookPier$Plan" "darkHunger" "I") (List.mem_of_getElem? (i := 9) rfl)) (fun _ h9 => h9) rfl (by decide +kernel) rfl rfl (Nat.le_of_ble_eq_true rfl) (zat zrX7_readDark_0_ok 14 rfl) (fun H locs hP hD hS => ?_)
      obtain ⟨hP, hD⟩ := pd_mk (bX6 a1 up kp (p_p.1, p_p.2.1, p_p.2.2.1, p_p.2.2.2.1, p_p.2.2.2.2.1, p_p.2.2.2.2.2.1, p_p.2.2.2.2.2.2.1, p_p.2.2.2.2.2.2.2.1, o13.2.2.2.2.2.2.2.1, p_p.2.2.2.2.2.2.2.2.2) (bX7 a0 ur kr o13.2 [])) hP hD
      refine lv_iconst (v := 1) hx hb (zat zrX7_readDark_0_ok 15 rfl) (by decide) ?_
      obtain rfl := Option.some.inj h
      obtain ⟨hP9, hD9⟩ := pd_sub (bX7 a0 ur kr o13.2 (bX6 a1 up kp (p_p.1, p_p.2.1, p_p.2.2.1, p_p.2.2.2.1, p_p.2.2.2.2.1, p_p.2.2.2.2.2.1, p_p.2.2.2.2.2.2.1, p_p.2.2.2.2.2.2.2.1, o13.2.2.2.2.2.2.2.1, p_p.2.2.2.2.2.2.2.2.2) [])) [10, 11, 12, 13, 0, 1, 2, 3, 4, 5, 6, 7, 8, 9] hP hD (by decide) rfl
      have hK9 := hK.sub (tys' := []) [] rfl
      rw [hQQ]
      exact W.zret (v := (1 : Int32)) hx hb hr rfl (fun t ht hW => ⟨⟨(1 : Int32), (), rfl, ⟨rfl, (by decide)⟩, by rw [ht]; exact hP9, va_K.moved hW.alike hK9, hD9⟩, hS.F ht⟩) hS.2.2 (zat zrX7_readDark_0_ok 16 rfl)
    · have h := (if_pos c16).symm.trans h
      refine lv_iconst (v := 0) hx hb (zat zrX7_readDark_0_ok 9 rfl) (by decide) ?_
      obtain rfl := Option.some.inj h
      obtain ⟨hP9, hD9⟩ := pd_sub (bX7 a0 ur kr o13.2 (bX6 a1 up kp p_p [])) [10, 11, 12, 13, 0, 1, 2, 3, 4, 5, 6, 7, 8, 9] hP hD (by decide) rfl
      have hK9 := hK.sub (tys' := []) [] rfl
      rw [hQQ]
      exact W.zret (v := (0 : Int32)) hx hb hr rfl (fun t ht hW => ⟨⟨(0 : Int32), (), rfl, ⟨rfl, (by decide)⟩, by rw [ht]; exact hP9, va_K.moved hW.alike hK9, hD9⟩, hS.F ht⟩) hS.2.2 (zat zrX7_readDark_0_ok 10 rfl)
noncomputable def zrX10_question_0 : List ZR := zc 0 true (.bipush 100) 2 (zc 2 true (.iload_n 0) 1 (zc 3 true (.imul) 1 (zc 4 true (.bipush 10) 2 (zc 6 true (.iload_n 1) 1 (zc 7 true (.imul) 1 (zc 8 true (.iadd) 1 (zc 9 true (.iload_n 2) 1 (zc 10 true (.iadd) 1 (zc 11 true (.ireturn) 1 ([]))))))))))
theorem zrX10_question_0_ok : zck 0 ((zby cX10_question).drop 0) zrX10_question_0 = true := by decide +kernel
def vfX10_question : List Cond := .code yX10_question cX10_question 3 (some .int) :: ([])
theorem qfX10_question : Good vfX10_question := gd_cons (by decide +kernel) (gd_dec (by decide +kernel) : Good [])
set_option maxHeartbeats 2000000 in
set_option maxRecDepth 100000 in
theorem kfX10_question (l : Launch) (dC : Nat → ClassId) (dI : Nat → Nat → Nat) (k0 : Int32) (k1 : Int32) (k2 : Int32) (sz : Nat) (out : Int32) (h : f_X10_question k0 k1 k2 = out) : KDi l yX10_question vfX10_question ({ frames := 0, cells := 0, slots := 0, locals := 0 }) (dC, dI) [.int k0, .int k1, .int k2] sz [] ([]) (fun (r : Int32) _ => r = out) 0 0 := by
  refine Met.ofW (cc := cX10_question) (maxL := 3) (ret := (some .int)) (by decide) rfl ?_
  intro p e s m args below meth c s₁ B0 hml hv
  obtain ⟨rfl, hsz, hP, hK, hD0, hN⟩ := hv
  have hx := B0.exec
  have hb := B0.bytes
  have hr := B0.returns
  have hts := atoms_spec (ws := vfX10_question) B0.pre
  have hown : s.vm.findClass RX10 = some m.cls := findClass_of_methodNamed B0.named
  have hlocks := B0.notSynchronized
  subst hsz
  have hD := hD0.self (sz := s.heap.size)
  generalize hAe : va_A [] s.heap.size = A at hD ⊢
  have hA : ∀ q : Nat, s.heap.size ≤ q → A q := fun q h => by rw [← hAe]; exact Or.inr h
  have hS : va_S A s.heap s.heap [] := va_S.rf
  have hP : va_P (dC, dI) vwCl [] s.heap := hP
  have hl := lv_entry ([.int k0, .int k1, .int k2]) (n := 3) (Nat.le_of_ble_eq_true rfl)
  rw [lg_entry_eq]
  generalize (lg_sl ([.int k0, .int k1, .int k2]) ++ List.replicate (3 - (lg_sl ([.int k0, .int k1, .int k2])).length) Slot.unset).toArray = ls at hl ⊢
  have hl : lv_has ls 3 [(0, .int k0), (1, .int k1), (2, .int k2)] := hl
  refine W_q (fun QQ hQQ => ?_)
  rw [f_X10_question] at h
  refine lv_bipush (v := 100) hx hb (zat zrX10_question_0_ok 0 rfl) (by decide) ?_
  refine lv_iload_n hx hb (zat zrX10_question_0_ok 1 rfl) rfl (lv_at hl 0 rfl) ?_
  refine lv_imul hx hb (zat zrX10_question_0_ok 2 rfl) ?_
  refine lv_bipush (v := 10) hx hb (zat zrX10_question_0_ok 3 rfl) (by decide) ?_
  refine lv_iload_n hx hb (zat zrX10_question_0_ok 4 rfl) rfl (lv_at hl 1 rfl) ?_
  refine lv_imul hx hb (zat zrX10_question_0_ok 5 rfl) ?_
  refine lv_iadd hx hb (zat zrX10_question_0_ok 6 rfl) ?_
  refine lv_iload_n hx hb (zat zrX10_question_0_ok 7 rfl) rfl (lv_at hl 2 rfl) ?_
  refine lv_iadd hx hb (zat zrX10_question_0_ok 8 rfl) ?_
  obtain rfl := h
  obtain ⟨hP9, hD9⟩ := pd_sub [] [] hP hD (by decide) rfl
  have hK9 := hK.sub (tys' := []) [] rfl
  rw [hQQ]
  exact W.iret (v := ((((100 : Int32) * k0) + ((10 : Int32) * k1)) + k2)) hx hb hr (fun t ht hW => ⟨⟨((((100 : Int32) * k0) + ((10 : Int32) * k1)) + k2), (), rfl, rfl, by rw [ht]; exact hP9, va_K.moved hW.alike hK9, hD9⟩, hS.F ht⟩) hS.2.2 (zat zrX10_question_0_ok 9 rfl)
