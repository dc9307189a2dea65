def vfX8_fill_s3 : List Cond := .code yX8_fill cX8_fill 6 none :: ([.fieldLink RX8 26 "HookPier$Plan" "askers" "I", .methodLink RX8 31 yX8_keepRow, .instanceMethod yX8_keepRow, .selects RX8 yX8_keepRow yX8_keepRow, .initialized RX8, .code yX8_keepRow cX8_keepRow 1 none, .fieldLink RX8 18 "HookPier$Seats" "found" "I", .fieldLink RX8 9 "HookPier$Seats" "row" "[I", .fieldLink RX8 15 "HookPier$Seats" "first" "[I", .methodLink RX8 41 arraycopyName, .native arraycopyName, .static arraycopyName, .initialized "java/lang/System", .fieldLink RX8 34 "HookPier$Plan" "spots" "I", .methodLink RX8 37 yX8_isFree, .instanceMethod yX8_isFree, .selects RX8 yX8_isFree yX8_isFree, .code yX8_isFree cX8_isFree 5 (some .boolean), .methodLink RX8 47 yX6_isTangle, .instanceMethod yX6_isTangle, .selects RX6 yX6_isTangle yX6_isTangle, .initialized RX6, .code yX6_isTangle cX6_isTangle 5 (some .boolean), .methodLink RX6 89 Lib.Math.abs.name, .static Lib.Math.abs.name, .initialized "java/lang/Math", .code Lib.Math.abs.name Lib.Math.abs.code 1 (some .int), .fieldLink RX6 39 "HookPier$Plan" "reach" "[I", .methodLink RX8 22 yX8_fill, .instanceMethod yX8_fill, .selects RX8 yX8_fill yX8_fill, .code yX8_fill cX8_fill 6 none] ++ wsX60 ++ wsX80)
theorem ifX8_fill_s3_X6 : ∀ w ∈ wsX60, w ∈ vfX8_fill_s3 := fun _ h => List.mem_cons_of_mem _ (List.mem_append_left _ (List.mem_append_right _ h))
theorem ifX8_fill_s3_X8 : ∀ w ∈ wsX80, w ∈ vfX8_fill_s3 := fun _ h => List.mem_cons_of_mem _ (List.mem_append_right _ h)
set_option maxRecDepth 20000 in
theorem gfX8_fill_s3_0 : GoodIn vfX8_fill_s3 (wsV RX8 31 RX8 yX8_keepRow vfX8_keepRow) := goodIn_app (goodIn_r [.methodLink RX8 31 yX8_keepRow, .instanceMethod yX8_keepRow, .selects RX8 yX8_keepRow yX8_keepRow, .initialized RX8] [2, 3, 4, 5] (by decide +kernel) (by decide +kernel)) (goodIn_ca (goodIn_r (.code yX8_keepRow cX8_keepRow 1 none :: [.fieldLink RX8 18 "HookPier$Seats" "found" "I", .fieldLink RX8 9 "HookPier$Seats" "row" "[I", .fieldLink RX8 15 "HookPier$Seats" "first" "[I", .methodLink RX8 41 arraycopyName, .native arraycopyName, .static arraycopyName, .initialized "java/lang/System"]) [6, 7, 8, 9, 10, 11, 12, 13] (by decide +kernel) (by decide +kernel) : GoodIn vfX8_fill_s3 (.code yX8_keepRow cX8_keepRow 1 none :: [.fieldLink RX8 18 "HookPier$Seats" "found" "I", .fieldLink RX8 9 "HookPier$Seats" "row" "[I", .fieldLink RX8 15 "HookPier$Seats" "first" "[I", .methodLink RX8 41 arraycopyName, .native arraycopyName, .static arraycopyName, .initialized "java/lang/System"])) (goodIn_sub ifX8_fill_s3_X8 (by decide +kernel)))
set_option maxRecDepth 20000 in
theorem gfX8_fill_s3_1 : GoodIn vfX8_fill_s3 (wsV RX8 37 RX8 yX8_isFree vfX8_isFree) := goodIn_app (goodIn_r [.methodLink RX8 37 yX8_isFree, .instanceMethod yX8_isFree, .selects RX8 yX8_isFree yX8_isFree, .initialized RX8] [15, 16, 17, 5] (by decide +kernel) (by decide +kernel)) (goodIn_ca (goodIn_ca (goodIn_r (.code yX8_isFree cX8_isFree 5 (some .boolean) :: [.fieldLink RX8 9 "HookPier$Seats" "row" "[I", .methodLink RX8 47 yX6_isTangle, .instanceMethod yX6_isTangle, .selects RX6 yX6_isTangle yX6_isTangle, .initialized RX6, .code yX6_isTangle cX6_isTangle 5 (some .boolean), .methodLink RX6 89 Lib.Math.abs.name, .static Lib.Math.abs.name, .initialized "java/lang/Math", .code Lib.Math.abs.name Lib.Math.abs.code 1 (some .int), .fieldLink RX6 39 "HookPier$Plan" "reach" "[I"]) [18, 8, 19, 20, 21, 22, 23, 24, 25, 26, 27, 28] (by decide +kernel) (by decide +kernel) : GoodIn vfX8_fill_s3 (.code yX8_isFree cX8_isFree 5 (some .boolean) :: [.fieldLink RX8 9 "HookPier$Seats" "row" "[I", .methodLink RX8 47 yX6_isTangle, .instanceMethod yX6_isTangle, .selects RX6 yX6_isTangle yX6_isTangle, .initialized RX6, .code yX6_isTangle cX6_isTangle 5 (some .boolean), .methodLink RX6 89 Lib.Math.abs.name, .static Lib.Math.abs.name, .initialized "java/lang/Math", .code Lib.Math.abs.name Lib.Math.abs.code 1 (some .int), .fieldLink RX6 39 "HookPier$Plan" "reach" "[I"])) (goodIn_sub ifX8_fill_s3_X8 (by decide +kernel))) (goodIn_sub ifX8_fill_s3_X6 (by decide +kernel)))
set_option maxRecDepth 20000 in
theorem gfX8_fill_s3_2 : GoodIn vfX8_fill_s3 (wsV RX8 22 RX8 yX8_fill vfX8_fill_s4) := goodIn_app (goodIn_r [.methodLink RX8 22 yX8_fill, .instanceMethod yX8_fill, .selects RX8 yX8_fill yX8_fill, .initialized RX8] [29, 30, 31, 5] (by decide +kernel) (by decide +kernel)) (goodIn_ca (goodIn_ca (goodIn_r (.code yX8_fill cX8_fill 6 none :: [.fieldLink RX8 26 "HookPier$Plan" "askers" "I", .methodLink RX8 31 yX8_keepRow, .instanceMethod yX8_keepRow, .selects RX8 yX8_keepRow yX8_keepRow, .initialized RX8, .code yX8_keepRow cX8_keepRow 1 none, .fieldLink RX8 18 "HookPier$Seats" "found" "I", .fieldLink RX8 9 "HookPier$Seats" "row" "[I", .fieldLink RX8 15 "HookPier$Seats" "first" "[I", .methodLink RX8 41 arraycopyName, .native arraycopyName, .static arraycopyName, .initialized "java/lang/System", .fieldLink RX8 34 "HookPier$Plan" "spots" "I", .methodLink RX8 37 yX8_isFree, .instanceMethod yX8_isFree, .selects RX8 yX8_isFree yX8_isFree, .code yX8_isFree cX8_isFree 5 (some .boolean), .methodLink RX8 47 yX6_isTangle, .instanceMethod yX6_isTangle, .selects RX6 yX6_isTangle yX6_isTangle, .initialized RX6, .code yX6_isTangle cX6_isTangle 5 (some .boolean), .methodLink RX6 89 Lib.Math.abs.name, .static Lib.Math.abs.name, .initialized "java/lang/Math", .code Lib.Math.abs.name Lib.Math.abs.code 1 (some .int), .fieldLink RX6 39 "HookPier$Plan" "reach" "[I", .methodLink RX8 22 yX8_fill, .instanceMethod yX8_fill, .selects RX8 yX8_fill yX8_fill, .code yX8_fill cX8_fill 6 none]) [0, 1, 2, 3, 4, 5, 6, 7, 8, 9, 10, 11, 12, 13, 14, 15, 16, 17, 18, 19, 20, 21, 22, 23, 24, 25, 26, 27, 28, 29, 30, 31, 0] (by decide +kernel) (by decide +kernel) : GoodIn vfX8_fill_s3 (.code yX8_fill cX8_fill 6 none :: [.fieldLink RX8 26 "HookPier$Plan" "askers" "I", .methodLink RX8 31 yX8_keepRow, .instanceMethod yX8_keepRow, .selects RX8 yX8_keepRow yX8_keepRow, .initialized RX8, .code yX8_keepRow cX8_keepRow 1 none, .fieldLink RX8 18 "HookPier$Seats" "found" "I", .fieldLink RX8 9 "HookPier$Seats" "row" "[I", .fieldLink RX8 15 "HookPier$Seats" "first" "[I", .methodLink RX8 41 arraycopyName, .native arraycopyName, .static arraycopyName, .initialized "java/lang/System", .fieldLink RX8 34 "HookPier$Plan" "spots" "I", .methodLink RX8 37 yX8_isFree, .instanceMethod yX8_isFree, .selects RX8 yX8_isFree yX8_isFree, .code yX8_isFree cX8_isFree 5 (some .boolean), .methodLink RX8 47 yX6_isTangle, .instanceMethod yX6_isTangle, .selects RX6 yX6_isTangle yX6_isTangle, .initialized RX6, .code yX6_isTangle cX6_isTangle 5 (some .boolean), .methodLink RX6 89 Lib.Math.abs.name, .static Lib.Math.abs.name, .initialized "java/lang/Math", .code Lib.Math.abs.name Lib.Math.abs.code 1 (some .int), .fieldLink RX6 39 "HookPier$Plan" "reach" "[I", .methodLink RX8 22 yX8_fill, .instanceMethod yX8_fill, .selects RX8 yX8_fill yX8_fill, .code yX8_fill cX8_fill 6 none])) (goodIn_sub ifX8_fill_s3_X6 (by decide +kernel))) (goodIn_sub ifX8_fill_s3_X8 (by decide +kernel)))
set_option maxHeartbeats 2000000 in
set_option maxRecDepth 100000 in
theorem kfX8_fill_s3 (l : Launch) (dC : Nat → ClassId) (dI : Nat → Nat → Nat) (a0 : Nat) (a1 : Nat) (k3 : Int32) (k4 : Int32) (us : Nat → Nat) (ks : Nat → ClassId) (up : Nat → Nat) (kp : Nat → ClassId) (s_s : TX8_s) (p_p : TX6_p) (sz : Nat) (out : TX8_s) (h : f_X8_fill_s3 k3 k4 s_s p_p = some out) : Met l yX8_fill vfX8_fill_s3 ({ frames := 4, cells := 0, slots := 0, locals := 110 }) (PC (dC, dI) [.ref a0, .ref a1, .int 3, .int k3, .int k4] sz (bX8 a0 us ks s_s (bX6 a1 up kp p_p [])) (tX8 ks (tX6 kp ([])))) (va_Qv (S := Unit) (fun _ => True) (fun _ t => BC (dC, dI) (va_A (bX8 a0 us ks s_s (bX6 a1 up kp p_p [])) sz) (bX8 a0 us ks out (bX6 a1 up kp p_p [])) [] t) (va_A (bX8 a0 us ks s_s (bX6 a1 up kp p_p [])) sz)) 0 0 (va_A (bX8 a0 us ks s_s (bX6 a1 up kp p_p [])) sz) := by
  refine Met.ofW (cc := cX8_fill) (maxL := 6) (ret := none) (by decide) rfl ?_
  intro p e s m args below meth c s₁ B0 hml hv
  obtain ⟨rfl, hsz, hP, hK, hD0, hN⟩ := hv
  have hx := B0.exec
  have hb := B0.bytes
  have hr := B0.returns
  have hts := atoms_spec (ws := vfX8_fill_s3) B0.pre
  have hown : s.vm.findClass RX8 = some m.cls := findClass_of_methodNamed B0.named
  have hlocks := B0.notSynchronized
  subst hsz
  have hD := hD0.self (sz := s.heap.size)
  generalize hAe : va_A (bX8 a0 us ks s_s (bX6 a1 up kp p_p [])) s.heap.size = A at hD ⊢
  have hA : ∀ q : Nat, s.heap.size ≤ q → A q := fun q h => by rw [← hAe]; exact Or.inr h
  have hS : va_S A s.heap s.heap [] := va_S.rf
  have hP : va_P (dC, dI) vwCl (bX8 a0 us ks s_s (bX6 a1 up kp p_p [])) s.heap := hP
  have hl := lv_entry ([.ref a0, .ref a1, .int 3, .int k3, .int k4]) (n := 6) (Nat.le_of_ble_eq_true rfl)
  rw [lg_entry_eq]
  generalize (lg_sl ([.ref a0, .ref a1, .int 3, .int k3, .int k4]) ++ List.replicate (6 - (lg_sl ([.ref a0, .ref a1, .int 3, .int k3, .int k4])).length) Slot.unset).toArray = ls at hl ⊢
  have hl : lv_has ls 6 [(0, .ref a0), (1, .ref a1), (2, .int 3), (3, .int k3), (4, .int k4)] := hl
  refine W_q (fun QQ hQQ => ?_)
  rw [f_X8_fill_s3] at h
  refine lv_iload_n hx hb dX8_fill_0 rfl (lv_at hl 2 rfl) ?_
  refine lv_aload_n hx hb dX8_fill_1 rfl (lv_at hl 1 rfl) ?_
  refine va_get (D := (dC, dI)) (ci := 4) (v := .int p_p.2.2.2.2.2.1) (C := RX6) (T := TX6) (N := 18) hx hb hts ifX8_fill_s3_X6 hown hK hP 3 rfl rfl 5 (by decide) (hts (.fieldLink RX8 26 "HookPier$Plan" "askers" "I") (List.mem_of_getElem? (i := 1) rfl)) (fun _ h9 => h9) rfl dX8_fill_2 ?_
  refine lv_icmp_ge (tgt := 17) hx hb dX8_fill_5 (by decide) (fun c5 => ?_) (fun c5 => ?_)
  · have h := (if_pos c5).symm.trans h
    refine lv_aload_n hx hb dX8_fill_17 rfl (lv_at hl 0 rfl) ?_
    obtain ⟨o18, eo18⟩ : ∃ o, o = f_X8_keepRow s_s := ⟨_, rfl⟩
    have h := nm_of h o18 eo18
    refine cl_v (wc := (bX8 a0 us ks s_s [])) (wr := (bX6 a1 up kp p_p [])) (va_runV (As := []) (rest := []) ⟨hx, hb, hml, hown, hts⟩ (kfX8_keepRow l dC dI a0 us ks s_s s.heap.size o18 eo18.symm) (cwV 0 hts gfX8_fill_s3_0 rfl rfl rfl (by decide +kernel) ⟨(Nat.le_of_ble_eq_true rfl), (Nat.le_of_ble_eq_true rfl)⟩) (PV (hP.sub (ws' := (bX8 a0 us ks s_s [])) [0, 1, 2] rfl) (hK.sub (tys' := (tX8 ks ([]))) [0, 1] rfl) (hD.sub (ws' := (bX8 a0 us ks s_s [])) [0, 1, 2] (by decide) rfl) hN 0 rfl rfl) rfl rfl hl.1 rfl (lv_room (Nat.le_of_ble_eq_true rfl)) dX8_fill_18 ⟨(Nat.le_of_ble_eq_true rfl), (Nat.le_of_ble_eq_true rfl)⟩) hP hD hK hS hA [0, 1, 2] [3, 4, 5, 6, 7, 8, 9, 10, 11, 12] rfl rfl (by decide) (by decide) (fun _ H locs hw hP hD _ hS => ?_)
    have hP : va_P (dC, dI) vwCl (bX6 a1 up kp p_p (bX8 a0 us ks o18 [])) H := hP
    have hD : va_D A (bX6 a1 up kp p_p (bX8 a0 us ks o18 [])) := hD
    obtain rfl := Option.some.inj h
    have hP9 := hP.sub (ws' := (bX8 a0 us ks o18 (bX6 a1 up kp p_p []))) [10, 11, 12, 0, 1, 2, 3, 4, 5, 6, 7, 8, 9] rfl
    have hD9 := hD.sub (ws' := (bX8 a0 us ks o18 (bX6 a1 up kp p_p []))) [10, 11, 12, 0, 1, 2, 3, 4, 5, 6, 7, 8, 9] (by decide) rfl
    have hK9 := hK.sub (tys' := []) [] rfl
    rw [hQQ]
    exact W.vret hx hb hr (fun t ht hW => ⟨⟨(), rfl, trivial, by rw [ht]; exact hP9, va_K.moved hW.alike hK9, hD9⟩, hS.F ht⟩) hS.2.2 dX8_fill_21
  · have h := (if_neg c5).symm.trans h
    refine lv_iload_n hx hb dX8_fill_8 rfl (lv_at hl 2 rfl) ?_
    refine lv_aload_n hx hb dX8_fill_9 rfl (lv_at hl 0 rfl) ?_
    refine va_get (D := (dC, dI)) (ci := 6) (v := .ref (us 0)) (C := RX8) (T := TX8) (N := 3) hx hb hts ifX8_fill_s3_X8 hown hK hP 0 rfl rfl 0 (by decide) (hts (.fieldLink RX8 9 "HookPier$Seats" "row" "[I") (List.mem_of_getElem? (i := 8) rfl)) (fun _ h9 => h9) rfl dX8_fill_10 ?_
    refine va_alen (v := 5) hx hb hK hP 1 0 rfl rfl rfl dX8_fill_13 ?_
    refine lv_icmp_lt (tgt := 22) hx hb dX8_fill_14 (by decide) (fun _ => ?_) (fun c14 => absurd c14 (by decide))
    refine lv_iload_n hx hb dX8_fill_22 rfl (lv_at hl 3 rfl) ?_
    refine lv_iload_n hx hb dX8_fill_23 rfl (lv_at hl 2 rfl) ?_
    refine lv_ishr hx hb dX8_fill_24 ?_
    refine lv_iconst (v := 1) hx hb dX8_fill_25 (by decide) ?_
    refine lv_iand hx hb dX8_fill_26 ?_
    refine lv_if_ne (tgt := 49) hx hb dX8_fill_27 (by decide) (fun c27 => ?_) (fun c27 => ?_)
    · have h := (if_neg c27).symm.trans h
      refine lv_iconst (v := 0) hx hb dX8_fill_49 (by decide) ?_
      refine lv_istore (lv' := [(5, .int 0), (0, .ref a0), (1, .ref a1), (2, .int 3), (3, .int k3), (4, .int k4)]) hx hb dX8_fill_50 hl (by decide) rfl (fun ls hl => ?_)
      have L52 : ∀ (n52 : Nat) (v52_l5 : Int32) (v52_s_s : TX8_s) (H : Heap) (locs : List Loc) (ls : Array Slot), f_X8_fill_s3_L52 k3 k4 p_p n52 v52_l5 v52_s_s = some out → va_P (dC, dI) vwCl (bX8 a0 us ks v52_s_s (bX6 a1 up kp p_p [])) H → va_D A (bX8 a0 us ks v52_s_s (bX6 a1 up kp p_p [])) → va_S A s.heap H locs → lv_has ls 6 [(5, .int v52_l5), (0, .ref a0), (1, .ref a1), (2, .int 3), (3, .int k3), (4, .int k4)] → W p l e (headSpec vfX8_fill_s3 { frames := 4, cells := 0, slots := 0, locals := 110 }).room s m ([.ref a0, .ref a1, .int 3, .int k3, .int k4]).toArray below meth c H locs 0 0 QQ (F0 m 52 ls []) := by
        intro n52
        induction n52 with
        | zero =>
          intro v52_l5 v52_s_s H locs ls h  _ _ _ _
          rw [f_X8_fill_s3_L52] at h
          cases h
        | succ n52 ih52 =>
          intro v52_l5 v52_s_s H locs ls h  hP hD hS hl
          rw [f_X8_fill_s3_L52] at h
          refine lv_iload hx hb dX8_fill_52 (lv_at hl 0 rfl) ?_
          refine lv_aload_n hx hb dX8_fill_54 rfl (lv_at hl 2 rfl) ?_
          refine va_get (D := (dC, dI)) (ci := 4) (v := .int p_p.1) (C := RX6) (T := TX6) (N := 18) hx hb hts ifX8_fill_s3_X6 hown hK hP 3 rfl rfl 0 (by decide) (hts (.fieldLink RX8 34 "HookPier$Plan" "spots" "I") (List.mem_of_getElem? (i := 14) rfl)) (fun _ h9 => h9) rfl dX8_fill_55 ?_
          refine lv_icmp_ge (tgt := 106) hx hb dX8_fill_58 (by decide) (fun c58 => ?_) (fun c58 => ?_)
          · have h := (if_pos c58).symm.trans h
            obtain rfl := Option.some.inj h
            have hP9 := hP.sub (ws' := (bX8 a0 us ks v52_s_s (bX6 a1 up kp p_p []))) [0, 1, 2, 3, 4, 5, 6, 7, 8, 9, 10, 11, 12] rfl
            have hD9 := hD.sub (ws' := (bX8 a0 us ks v52_s_s (bX6 a1 up kp p_p []))) [0, 1, 2, 3, 4, 5, 6, 7, 8, 9, 10, 11, 12] (by decide) rfl
            have hK9 := hK.sub (tys' := []) [] rfl
            rw [hQQ]
            exact W.vret hx hb hr (fun t ht hW => ⟨⟨(), rfl, trivial, by rw [ht]; exact hP9, va_K.moved hW.alike hK9, hD9⟩, hS.F ht⟩) hS.2.2 dX8_fill_106
          · have h := (if_neg c58).symm.trans h
            refine lv_aload_n hx hb dX8_fill_61 rfl (lv_at hl 1 rfl) ?_
            refine va_get (D := (dC, dI)) (ci := 6) (v := .int v52_s_s.2.2) (C := RX8) (T := TX8) (N := 3) hx hb hts ifX8_fill_s3_X8 hown hK hP 0 rfl rfl 2 (by decide) (hts (.fieldLink RX8 18 "HookPier$Seats" "found" "I") (List.mem_of_getElem? (i := 7) rfl)) (fun _ h9 => h9) rfl dX8_fill_62 ?_
            refine lv_iload hx hb dX8_fill_65 (lv_at hl 5 rfl) ?_
            refine lv_icmp_ge (tgt := 106) hx hb dX8_fill_67 (by decide) (fun c67 => ?_) (fun c67 => ?_)
            · have h := (if_pos c67).symm.trans h
              obtain rfl := Option.some.inj h
              have hP9 := hP.sub (ws' := (bX8 a0 us ks v52_s_s (bX6 a1 up kp p_p []))) [0, 1, 2, 3, 4, 5, 6, 7, 8, 9, 10, 11, 12] rfl
              have hD9 := hD.sub (ws' := (bX8 a0 us ks v52_s_s (bX6 a1 up kp p_p []))) [0, 1, 2, 3, 4, 5, 6, 7, 8, 9, 10, 11, 12] (by decide) rfl
              have hK9 := hK.sub (tys' := []) [] rfl
              rw [hQQ]
              exact W.vret hx hb hr (fun t ht hW => ⟨⟨(), rfl, trivial, by rw [ht]; exact hP9, va_K.moved hW.alike hK9, hD9⟩, hS.F ht⟩) hS.2.2 dX8_fill_106
            · have h := (if_neg c67).symm.trans h
              refine lv_aload_n hx hb dX8_fill_70 rfl (lv_at hl 1 rfl) ?_
              refine lv_aload_n hx hb dX8_fill_71 rfl (lv_at hl 2 rfl) ?_
              refine lv_iload_n hx hb dX8_fill_72 rfl (lv_at hl 3 rfl) ?_
              refine lv_iload hx hb dX8_fill_73 (lv_at hl 0 rfl) ?_
              obtain ⟨o75, eo75, h⟩ := bd_of h
              refine cl_i (wc := (bX8 a0 us ks v52_s_s (bX6 a1 up kp p_p []))) (wr := []) (va_runV (As := [.ref a1, .int 3, .int v52_l5]) (rest := []) ⟨hx, hb, hml, hown, hts⟩ (kfX8_isFree l dC dI a0 a1 (3 : Int32) v52_l5 us ks up kp v52_s_s p_p H.size o75 eo75) (cwV 3 hts gfX8_fill_s3_1 rfl rfl rfl (by decide +kernel) ⟨(Nat.le_of_ble_eq_true rfl), (Nat.le_of_ble_eq_true rfl)⟩) (PV (hP.sub (ws' := (bX8 a0 us ks v52_s_s (bX6 a1 up kp p_p []))) [0, 1, 2, 3, 4, 5, 6, 7, 8, 9, 10, 11, 12] rfl) (hK.sub (tys' := (tX8 ks (tX6 kp ([])))) [0, 1, 2, 3, 4, 5, 6, 7, 8, 9, 10] rfl) (hD.sub (ws' := (bX8 a0 us ks v52_s_s (bX6 a1 up kp p_p []))) [0, 1, 2, 3, 4, 5, 6, 7, 8, 9, 10, 11, 12] (by decide) rfl) hN 0 rfl rfl) rfl rfl hl.1 rfl (lv_room (Nat.le_of_ble_eq_true rfl)) dX8_fill_75 ⟨(Nat.le_of_ble_eq_true rfl), (Nat.le_of_ble_eq_true rfl)⟩) hP hD hK hS hA [0, 1, 2, 3, 4, 5, 6, 7, 8, 9, 10, 11, 12] [] rfl rfl (by decide) (by decide) (fun r75 _ H locs hw hP hD _ hS => ?_)
              obtain ⟨hw, br75⟩ := hw
              obtain rfl := hw.symm
              have hP : va_P (dC, dI) vwCl (bX8 a0 us ks v52_s_s (bX6 a1 up kp p_p [])) H := hP
              have hD : va_D A (bX8 a0 us ks v52_s_s (bX6 a1 up kp p_p [])) := hD
              have J100 : ∀ (v100_s_s : TX8_s) (H : Heap) (locs : List Loc) (ls : Array Slot), f_X8_fill_s3_J100 (f_X8_fill_s3_L52 k3 k4 p_p n52) v52_l5 v100_s_s = some out → va_P (dC, dI) vwCl (bX8 a0 us ks v100_s_s (bX6 a1 up kp p_p [])) H → va_D A (bX8 a0 us ks v100_s_s (bX6 a1 up kp p_p [])) → va_S A s.heap H locs → lv_has ls 6 [(5, .int v52_l5), (0, .ref a0), (1, .ref a1), (2, .int 3), (3, .int k3), (4, .int k4)] → W p l e (headSpec vfX8_fill_s3 { frames := 4, cells := 0, slots := 0, locals := 110 }).room s m ([.ref a0, .ref a1, .int 3, .int k3, .int k4]).toArray below meth c H locs 0 0 QQ (F0 m 100 ls []) := by
                intro v100_s_s H locs ls h  hP hD hS hl
                rw [f_X8_fill_s3_J100] at h
                refine lv_iinc (v := (v52_l5 + (1 : Int32))) (lv' := [(5, .int (v52_l5 + (1 : Int32))), (0, .ref a0), (1, .ref a1), (2, .int 3), (3, .int k3), (4, .int k4)]) hx hb dX8_fill_100 hl (k := 0) rfl rfl (by decide) rfl (fun ls hl => ?_)
                refine lv_goto (tgt := 52) hx hb dX8_fill_103 (by decide) ?_
                exact ih52 (v52_l5 + (1 : Int32)) v100_s_s H _ ls h  hP hD hS (lv_sub hl [0, 1, 2, 3, 4, 5] rfl)
              refine lv_if_eq (tgt := 100) hx hb dX8_fill_78 (by decide) (fun c78 => ?_) (fun c78 => ?_)
              · have h := (if_pos c78).symm.trans h
                exact J100 v52_s_s H _ ls h  hP hD hS (lv_sub hl [0, 1, 2, 3, 4, 5] rfl)
              · have h := (if_neg c78).symm.trans h
                refine lv_aload_n hx hb dX8_fill_81 rfl (lv_at hl 1 rfl) ?_
                refine va_get (D := (dC, dI)) (ci := 6) (v := .ref (us 0)) (C := RX8) (T := TX8) (N := 3) hx hb hts ifX8_fill_s3_X8 hown hK hP 0 rfl rfl 0 (by decide) (hts (.fieldLink RX8 9 "HookPier$Seats" "row" "[I") (List.mem_of_getElem? (i := 8) rfl)) (fun _ h9 => h9) rfl dX8_fill_82 ?_
                refine lv_iload_n hx hb dX8_fill_85 rfl (lv_at hl 3 rfl) ?_
                refine lv_iload hx hb dX8_fill_86 (lv_at hl 0 rfl) ?_
                refine va_iast hx hb hK hP hD hS 1 0 rfl rfl (by unfold vp_in; decide) dX8_fill_88 (fun H locs hP hD hS => ?_)
                have hP : va_P (dC, dI) vwCl (bX8 a0 us ks ((upd v52_s_s.1 ((3 : Int32)).toNatClampNeg v52_l5), v52_s_s.2) (bX6 a1 up kp p_p [])) H := hP
                have hD : va_D A (bX8 a0 us ks ((upd v52_s_s.1 ((3 : Int32)).toNatClampNeg v52_l5), v52_s_s.2) (bX6 a1 up kp p_p [])) := hD
                refine lv_aload_n hx hb dX8_fill_89 rfl (lv_at hl 1 rfl) ?_
                refine lv_aload_n hx hb dX8_fill_90 rfl (lv_at hl 2 rfl) ?_
                refine lv_iload_n hx hb dX8_fill_91 rfl (lv_at hl 3 rfl) ?_
                refine lv_iconst (v := 1) hx hb dX8_fill_92 (by decide) ?_
                refine lv_iadd hx hb dX8_fill_93 ?_
                refine lv_topi (fun z93 e93 => ?_)
                obtain rfl : z93 = 4 := e93.trans (by decide)
                refine lv_iload_n hx hb dX8_fill_94 rfl (lv_at hl 4 rfl) ?_
                refine lv_iload hx hb dX8_fill_95 (lv_at hl 5 rfl) ?_
                obtain ⟨o97, eo97, h⟩ := bd_of h
                refine cl_v (wc := (bX8 a0 us ks ((upd v52_s_s.1 ((3 : Int32)).toNatClampNeg v52_l5), v52_s_s.2) (bX6 a1 up kp p_p []))) (wr := []) (va_runV (As := [.ref a1, .int 4, .int k3, .int k4]) (rest := []) ⟨hx, hb, hml, hown, hts⟩ (kfX8_fill_s4 l dC dI a0 a1 k3 k4 us ks up kp ((upd v52_s_s.1 ((3 : Int32)).toNatClampNeg v52_l5), v52_s_s.2) p_p H.size o97 eo97) (cwV 4 hts gfX8_fill_s3_2 rfl rfl rfl (by decide +kernel) ⟨(Nat.le_of_ble_eq_true rfl), (Nat.le_of_ble_eq_true rfl)⟩) (PV (hP.sub (ws' := (bX8 a0 us ks ((upd v52_s_s.1 ((3 : Int32)).toNatClampNeg v52_l5), v52_s_s.2) (bX6 a1 up kp p_p []))) [0, 1, 2, 3, 4, 5, 6, 7, 8, 9, 10, 11, 12] rfl) (hK.sub (tys' := (tX8 ks (tX6 kp ([])))) [0, 1, 2, 3, 4, 5, 6, 7, 8, 9, 10] rfl) (hD.sub (ws' := (bX8 a0 us ks ((upd v52_s_s.1 ((3 : Int32)).toNatClampNeg v52_l5), v52_s_s.2) (bX6 a1 up kp p_p []))) [0, 1, 2, 3, 4, 5, 6, 7, 8, 9, 10, 11, 12] (by decide) rfl) hN 0 rfl rfl) rfl rfl hl.1 rfl (lv_room (Nat.le_of_ble_eq_true rfl)) dX8_fill_97 ⟨(Nat.le_of_ble_eq_true rfl), (Nat.le_of_ble_eq_true rfl)⟩) hP hD hK hS hA [0, 1, 2, 3, 4, 5, 6, 7, 8, 9, 10, 11, 12] [] rfl rfl (by decide) (by decide) (fun _ H locs hw hP hD _ hS => ?_)
                have hP : va_P (dC, dI) vwCl (bX8 a0 us ks o97 (bX6 a1 up kp p_p [])) H := hP
                have hD : va_D A (bX8 a0 us ks o97 (bX6 a1 up kp p_p [])) := hD
                exact J100 o97 H _ ls h  hP hD hS (lv_sub hl [0, 1, 2, 3, 4, 5] rfl)
      exact L52 FU (0 : Int32) s_s s.heap _ ls h  hP hD hS (lv_sub hl [0, 1, 2, 3, 4, 5] rfl)
    · have h := (if_pos c27).symm.trans h
      refine lv_aload_n hx hb dX8_fill_30 rfl (lv_at hl 0 rfl) ?_
      refine va_get (D := (dC, dI)) (ci := 6) (v := .ref (us 0)) (C := RX8) (T := TX8) (N := 3) hx hb hts ifX8_fill_s3_X8 hown hK hP 0 rfl rfl 0 (by decide) (hts (.fieldLink RX8 9 "HookPier$Seats" "row" "[I") (List.mem_of_getElem? (i := 8) rfl)) (fun _ h9 => h9) rfl dX8_fill_31 ?_
      refine lv_iload_n hx hb dX8_fill_34 rfl (lv_at hl 2 rfl) ?_
      refine lv_iconst (v := (-1)) hx hb dX8_fill_35 (by decide) ?_
      refine va_iast hx hb hK hP hD hS 1 0 rfl rfl (by unfold vp_in; decide) dX8_fill_36 (fun H locs hP hD hS => ?_)
      have hP : va_P (dC, dI) vwCl (bX8 a0 us ks ((upd s_s.1 ((3 : Int32)).toNatClampNeg (-1 : Int32)), s_s.2) (bX6 a1 up kp p_p [])) H := hP
      have hD : va_D A (bX8 a0 us ks ((upd s_s.1 ((3 : Int32)).toNatClampNeg (-1 : Int32)), s_s.2) (bX6 a1 up kp p_p [])) := hD
      refine lv_aload_n hx hb dX8_fill_37 rfl (lv_at hl 0 rfl) ?_
      refine lv_aload_n hx hb dX8_fill_38 rfl (lv_at hl 1 rfl) ?_
      refine lv_iload_n hx hb dX8_fill_39 rfl (lv_at hl 2 rfl) ?_
      refine lv_iconst (v := 1) hx hb dX8_fill_40 (by decide) ?_
      refine lv_iadd hx hb dX8_fill_41 ?_
      refine lv_topi (fun z41 e41 => ?_)
      obtain rfl : z41 = 4 := e41.trans (by decide)
      refine lv_iload_n hx hb dX8_fill_42 rfl (lv_at hl 3 rfl) ?_
      refine lv_iload hx hb dX8_fill_43 (lv_at hl 4 rfl) ?_
      obtain ⟨o45, eo45, h⟩ := bd_of h
      refine cl_v (wc := (bX8 a0 us ks ((upd s_s.1 ((3 : Int32)).toNatClampNeg (-1 : Int32)), s_s.2) (bX6 a1 up kp p_p []))) (wr := []) (va_runV (As := [.ref a1, .int 4, .int k3, .int k4]) (rest := []) ⟨hx, hb, hml, hown, hts⟩ (kfX8_fill_s4 l dC dI a0 a1 k3 k4 us ks up kp ((upd s_s.1 ((3 : Int32)).toNatClampNeg (-1 : Int32)), s_s.2) p_p H.size o45 eo45) (cwV 4 hts gfX8_fill_s3_2 rfl rfl rfl (by decide +kernel) ⟨(Nat.le_of_ble_eq_true rfl), (Nat.le_of_ble_eq_true rfl)⟩) (PV (hP.sub (ws' := (bX8 a0 us ks ((upd s_s.1 ((3 : Int32)).toNatClampNeg (-1 : Int32)), s_s.2) (bX6 a1 up kp p_p []))) [0, 1, 2, 3, 4, 5, 6, 7, 8, 9, 10, 11, 12] rfl) (hK.sub (tys' := (tX8 ks (tX6 kp ([])))) [0, 1, 2, 3, 4, 5, 6, 7, 8, 9, 10] rfl) (hD.sub (ws' := (bX8 a0 us ks ((upd s_s.1 ((3 : Int32)).toNatClampNeg (-1 : Int32)), s_s.2) (bX6 a1 up kp p_p []))) [0, 1, 2, 3, 4, 5, 6, 7, 8, 9, 10, 11, 12] (by decide) rfl) hN 0 rfl rfl) rfl rfl hl.1 rfl (lv_room (Nat.le_of_ble_eq_true rfl)) dX8_fill_45 ⟨(Nat.le_of_ble_eq_true rfl), (Nat.le_of_ble_eq_true rfl)⟩) hP hD hK hS hA [0, 1, 2, 3, 4, 5, 6, 7, 8, 9, 10, 11, 12] [] rfl rfl (by decide) (by decide) (fun _ H locs hw hP hD _ hS => ?_)
      have hP : va_P (dC, dI) vwCl (bX8 a0 us ks o45 (bX6 a1 up kp p_p [])) H := hP
      have hD : va_D A (bX8 a0 us ks o45 (bX6 a1 up kp p_p [])) := hD
      obtain rfl := Option.some.inj h
      have hP9 := hP.sub (ws' := (bX8 a0 us ks o45 (bX6 a1 up kp p_p []))) [0, 1, 2, 3, 4, 5, 6, 7, 8, 9, 10, 11, 12] rfl
      have hD9 := hD.sub (ws' := (bX8 a0 us ks o45 (bX6 a1 up kp p_p []))) [0, 1, 2, 3, 4, 5, 6, 7, 8, 9, 10, 11, 12] (by decide) rfl
      have hK9 := hK.sub (tys' := []) [] rfl
      rw [hQQ]
      exact W.vret hx hb hr (fun t ht hW => ⟨⟨(), rfl, trivial, by rw [ht]; exact hP9, va_K.moved hW.alike hK9, hD9⟩, hS.F ht⟩) hS.2.2 dX8_fill_48
def vfX8_fill_s2 : List Cond := .code yX8_fill cX8_fill 6 none :: ([.fieldLink RX8 26 "HookPier$Plan" "askers" "I", .methodLink RX8 31 yX8_keepRow, .instanceMethod yX8_keepRow, .selects RX8 yX8_keepRow yX8_keepRow, .initialized RX8, .code yX8_keepRow cX8_keepRow 1 none, .fieldLink RX8 18 "HookPier$Seats" "found" "I", .fieldLink RX8 9 "HookPier$Seats" "row" "[I", .fieldLink RX8 15 "HookPier$Seats" "first" "[I", .methodLink RX8 41 arraycopyName, .native arraycopyName, .static arraycopyName, .initialized "java/lang/System", .fieldLink RX8 34 "HookPier$Plan" "spots" "I", .methodLink RX8 37 yX8_isFree, .instanceMethod yX8_isFree, .selects RX8 yX8_isFree yX8_isFree, .code yX8_isFree cX8_isFree 5 (some .boolean), .methodLink RX8 47 yX6_isTangle, .instanceMethod yX6_isTangle, .selects RX6 yX6_isTangle yX6_isTangle, .initialized RX6, .code yX6_isTangle cX6_isTangle 5 (some .boolean), .methodLink RX6 89 Lib.Math.abs.name, .static Lib.Math.abs.name, .initialized "java/lang/Math", .code Lib.Math.abs.name Lib.Math.abs.code 1 (some .int), .fieldLink RX6 39 "HookPier$Plan" "reach" "[I", .methodLink RX8 22 yX8_fill, .instanceMethod yX8_fill, .selects RX8 yX8_fill yX8_fill, .code yX8_fill cX8_fill 6 none] ++ wsX60 ++ wsX80)
theorem ifX8_fill_s2_X6 : ∀ w ∈ wsX60, w ∈ vfX8_fill_s2 := fun _ h => List.mem_cons_of_mem _ (List.mem_append_left _ (List.mem_append_right _ h))
theorem ifX8_fill_s2_X8 : ∀ w ∈ wsX80, w ∈ vfX8_fill_s2 := fun _ h => List.mem_cons_of_mem _ (List.mem_append_right _ h)
set_option maxRecDepth 20000 in
theorem gfX8_fill_s2_0 : GoodIn vfX8_fill_s2 (wsV RX8 31 RX8 yX8_keepRow vfX8_keepRow) := goodIn_app (goodIn_r [.methodLink RX8 31 yX8_keepRow, .instanceMethod yX8_keepRow, .selects RX8 yX8_keepRow yX8_keepRow, .initialized RX8] [2, 3, 4, 5] (by decide +kernel) (by decide +kernel)) (goodIn_ca (goodIn_r (.code yX8_keepRow cX8_keepRow 1 none :: [.fieldLink RX8 18 "HookPier$Seats" "found" "I", .fieldLink RX8 9 "HookPier$Seats" "row" "[I", .fieldLink RX8 15 "HookPier$Seats" "first" "[I", .methodLink RX8 41 arraycopyName, .native arraycopyName, .static arraycopyName, .initialized "java/lang/System"]) [6, 7, 8, 9, 10, 11, 12, 13] (by decide +kernel) (by decide +kernel) : GoodIn vfX8_fill_s2 (.code yX8_keepRow cX8_keepRow 1 none :: [.fieldLink RX8 18 "HookPier$Seats" "found" "I", .fieldLink RX8 9 "HookPier$Seats" "row" "[I", .fieldLink RX8 15 "HookPier$Seats" "first" "[I", .methodLink RX8 41 arraycopyName, .native arraycopyName, .static arraycopyName, .initialized "java/lang/System"])) (goodIn_sub ifX8_fill_s2_X8 (by decide +kernel)))
set_option maxRecDepth 20000 in
theorem gfX8_fill_s2_1 : GoodIn vfX8_fill_s2 (wsV RX8 37 RX8 yX8_isFree vfX8_isFree) := goodIn_app (goodIn_r [.methodLink RX8 37 yX8_isFree, .instanceMethod yX8_isFree, .selects RX8 yX8_isFree yX8_isFree, .initialized RX8] [15, 16, 17, 5] (by decide +kernel) (by decide +kernel)) (goodIn_ca (goodIn_ca (goodIn_r (.code yX8_isFree cX8_isFree 5 (some .boolean) :: [.fieldLink RX8 9 "HookPier$Seats" "row" "[I", .methodLink RX8 47 yX6_isTangle, .instanceMethod yX6_isTangle, .selects RX6 yX6_isTangle yX6_isTangle, .initialized RX6, .code yX6_isTangle cX6_isTangle 5 (some .boolean), .methodLink RX6 89 Lib.Math.abs.name, .static Lib.Math.abs.name, .initialized "java/lang/Math", .code Lib.Math.abs.name Lib.Math.abs.code 1 (some .int), .fieldLink RX6 39 "HookPier$Plan" "reach" "[I"]) [18, 8, 19, 20, 21, 22, 23, 24, 25, 26, 27, 28] (by decide +kernel) (by decide +kernel) : GoodIn vfX8_fill_s2 (.code yX8_isFree cX8_isFree 5 (some .boolean) :: [.fieldLink RX8 9 "HookPier$Seats" "row" "[I", .methodLink RX8 47 yX6_isTangle, .instanceMethod yX6_isTangle, .selects RX6 yX6_isTangle yX6_isTangle, .initialized RX6, .code yX6_isTangle cX6_isTangle 5 (some .boolean), .methodLink RX6 89 Lib.Math.abs.name, .static Lib.Math.abs.name, .initialized "java/lang/Math", .code Lib.Math.abs.name Lib.Math.abs.code 1 (some .int), .fieldLink RX6 39 "HookPier$Plan" "reach" "[I"])) (goodIn_sub ifX8_fill_s2_X8 (by decide +kernel))) (goodIn_sub ifX8_fill_s2_X6 (by decide +kernel)))
set_option maxRecDepth 20000 in
theorem gfX8_fill_s2_2 : GoodIn vfX8_fill_s2 (wsV RX8 22 RX8 yX8_fill vfX8_fill_s3) := goodIn_app (goodIn_r [.methodLink RX8 22 yX8_fill, .instanceMethod yX8_fill, .selects RX8 yX8_fill yX8_fill, .initialized RX8] [29, 30, 31, 5] (by decide +kernel) (by decide +kernel)) (goodIn_ca (goodIn_ca (goodIn_r (.code yX8_fill cX8_fill 6 none :: [.fieldLink RX8 26 "HookPier$Plan" "askers" "I", .methodLink RX8 31 yX8_keepRow, .instanceMethod yX8_keepRow, .selects RX8 yX8_keepRow yX8_keepRow, .initialized RX8, .code yX8_keepRow cX8_keepRow 1 none, .fieldLink RX8 18 "HookPier$Seats" "found" "I", .fieldLink RX8 9 "HookPier$Seats" "row" "[I", .fieldLink RX8 15 "HookPier$Seats" "first" "[I", .methodLink RX8 41 arraycopyName, .native arraycopyName, .static arraycopyName, .initialized "java/lang/System", .fieldLink RX8 34 "HookPier$Plan" "spots" "I", .methodLink RX8 37 yX8_isFree, .instanceMethod yX8_isFree, .selects RX8 yX8_isFree yX8_isFree, .code yX8_isFree cX8_isFree 5 (some .boolean), .methodLink RX8 47 yX6_isTangle, .instanceMethod yX6_isTangle, .selects RX6 yX6_isTangle yX6_isTangle, .initialized RX6, .code yX6_isTangle cX6_isTangle 5 (some .boolean), .methodLink RX6 89 Lib.Math.abs.name, .static Lib.Math.abs.name, .initialized "java/lang/Math", .code Lib.Math.abs.name Lib.Math.abs.code 1 (some .int), .fieldLink RX6 39 "HookPier$Plan" "reach" "[I", .methodLink RX8 22 yX8_fill, .instanceMethod yX8_fill, .selects RX8 yX8_fill yX8_fill, .code yX8_fill cX8_fill 6 none]) [0, 1, 2, 3, 4, 5, 6, 7, 8, 9, 10, 11, 12, 13, 14, 15, 16, 17, 18, 19, 20, 21, 22, 23, 24, 25, 26, 27, 28, 29, 30, 31, 0] (by decide +kernel) (by decide +kernel) : GoodIn vfX8_fill_s2 (.code yX8_fill cX8_fill 6 none :: [.fieldLink RX8 26 "HookPier$Plan" "askers" "I", .methodLink RX8 31 yX8_keepRow, .instanceMethod yX8_keepRow, .selects RX8 yX8_keepRow yX8_keepRow, .initialized RX8, .code yX8_keepRow cX8_keepRow 1 none, .fieldLink RX8 18 "HookPier$Seats" "found" "I", .fieldLink RX8 9 "HookPier$Seats" "row" "[I", .fieldLink RX8 15 "HookPier$Seats" "first" "[I", .methodLink RX8 41 arraycopyName, .native arraycopyName, .static arraycopyName, .initialized "java/lang/System", .fieldLink RX8 34 "HookPier$Plan" "spots" "I", .methodLink RX8 37 yX8_isFree, .instanceMethod yX8_isFree, .selects RX8 yX8_isFree yX8_isFree, .code yX8_isFree cX8_isFree 5 (some .boolean), .methodLink RX8 47 yX6_isTangle, .instanceMethod yX6_isTangle, .selects RX6 yX6_isTangle yX6_isTangle, .initialized RX6, .code yX6_isTangle cX6_isTangle 5 (some .boolean), .methodLink RX6 89 Lib.Math.abs.name, .static Lib.Math.abs.name, .initialized "java/lang/Math", .code Lib.Math.abs.name Lib.Math.abs.code 1 (some .int), .fieldLink RX6 39 "HookPier$Plan" "reach" "[I", .methodLink RX8 22 yX8_fill, .instanceMethod yX8_fill, .selects RX8 yX8_fill yX8_fill, .code yX8_fill cX8_fill 6 none])) (goodIn_sub ifX8_fill_s2_X6 (by decide +kernel))) (goodIn_sub ifX8_fill_s2_X8 (by decide +kernel)))
set_option maxHeartbeats 2000000 in
set_option maxRecDepth 100000 in
theorem kfX8_fill_s2 (l : Launch) (dC : Nat → ClassId) (dI : Nat → Nat → Nat) (a0 : Nat) (a1 : Nat) (k3 : Int32) (k4 : Int32) (us : Nat → Nat) (ks : Nat → ClassId) (up : Nat → Nat) (kp : Nat → ClassId) (s_s : TX8_s) (p_p : TX6_p) (sz : Nat) (out : TX8_s) (h : f_X8_fill_s2 k3 k4 s_s p_p = some out) : Met l yX8_fill vfX8_fill_s2 ({ frames := 5, cells := 0, slots := 0, locals := 135 }) (PC (dC, dI) [.ref a0, .ref a1, .int 2, .int k3, .int k4] sz (bX8 a0 us ks s_s (bX6 a1 up kp p_p [])) (tX8 ks (tX6 kp ([])))) (va_Qv (S := Unit) (fun _ => True) (fun _ t => BC (dC, dI) (va_A (bX8 a0 us ks s_s (bX6 a1 up kp p_p [])) sz) (bX8 a0 us ks out (bX6 a1 up kp p_p [])) [] t) (va_A (bX8 a0 us ks s_s (bX6 a1 up kp p_p [])) sz)) 0 0 (va_A (bX8 a0 us ks s_s (bX6 a1 up kp p_p [])) sz) := by
  refine Met.ofW (cc := cX8_fill) (maxL := 6) (ret := none) (by decide) rfl ?_
  intro p e s m args below meth c s₁ B0 hml hv
  obtain ⟨rfl, hsz, hP, hK, hD0, hN⟩ := hv
  have hx := B0.exec
  have hb := B0.bytes
  have hr := B0.returns
  have hts := atoms_spec (ws := vfX8_fill_s2) B0.pre
  have hown : s.vm.findClass RX8 = some m.cls := findClass_of_methodNamed B0.named
  have hlocks := B0.notSynchronized
  subst hsz
  have hD := hD0.self (sz := s.heap.size)
  generalize hAe : va_A (bX8 a0 us ks s_s (bX6 a1 up kp p_p [])) s.heap.size = A at hD ⊢
  have hA : ∀ q : Nat, s.heap.size ≤ q → A q := fun q h => by rw [← hAe]; exact Or.inr h
  have hS : va_S A s.heap s.heap [] := va_S.rf
  have hP : va_P (dC, dI) vwCl (bX8 a0 us ks s_s (bX6 a1 up kp p_p [])) s.heap := hP
  have hl := lv_entry ([.ref a0, .ref a1, .int 2, .int k3, .int k4]) (n := 6) (Nat.le_of_ble_eq_true rfl)
  rw [lg_entry_eq]
  generalize (lg_sl ([.ref a0, .ref a1, .int 2, .int k3, .int k4]) ++ List.replicate (6 - (lg_sl ([.ref a0, .ref a1, .int 2, .int k3, .int k4])).length) Slot.unset).toArray = ls at hl ⊢
  have hl : lv_has ls 6 [(0, .ref a0), (1, .ref a1), (2, .int 2), (3, .int k3), (4, .int k4)] := hl
  refine W_q (fun QQ hQQ => ?_)
  rw [f_X8_fill_s2] at h
  refine lv_iload_n hx hb dX8_fill_0 rfl (lv_at hl 2 rfl) ?_
  refine lv_aload_n hx hb dX8_fill_1 rfl (lv_at hl 1 rfl) ?_
  refine va_get (D := (dC, dI)) (ci := 4) (v := .int p_p.2.2.2.2.2.1) (C := RX6) (T := TX6) (N := 18) hx hb hts ifX8_fill_s2_X6 hown hK hP 3 rfl rfl 5 (by decide) (hts (.fieldLink RX8 26 "HookPier$Plan" "askers" "I") (List.mem_of_getElem? (i := 1) rfl)) (fun _ h9 => h9) rfl dX8_fill_2 ?_
  refine lv_icmp_ge (tgt := 17) hx hb dX8_fill_5 (by decide) (fun c5 => ?_) (fun c5 => ?_)
  · have h := (if_pos c5).symm.trans h
    refine lv_aload_n hx hb dX8_fill_17 rfl (lv_at hl 0 rfl) ?_
    obtain ⟨o18, eo18⟩ : ∃ o, o = f_X8_keepRow s_s := ⟨_, rfl⟩
    have h := nm_of h o18 eo18
    refine cl_v (wc := (bX8 a0 us ks s_s [])) (wr := (bX6 a1 up kp p_p [])) (va_runV (As := []) (rest := []) ⟨hx, hb, hml, hown, hts⟩ (kfX8_keepRow l dC dI a0 us ks s_s s.heap.size o18 eo18.symm) (cwV 0 hts gfX8_fill_s2_0 rfl rfl rfl (by decide +kernel) ⟨(Nat.le_of_ble_eq_true rfl), (Nat.le_of_ble_eq_true rfl)⟩) (PV (hP.sub (ws' := (bX8 a0 us ks s_s [])) [0, 1, 2] rfl) (hK.sub (tys' := (tX8 ks ([]))) [0, 1] rfl) (hD.sub (ws' := (bX8 a0 us ks s_s [])) [0, 1, 2] (by decide) rfl) hN 0 rfl rfl) rfl rfl hl.1 rfl (lv_room (Nat.le_of_ble_eq_true rfl)) dX8_fill_18 ⟨(Nat.le_of_ble_eq_true rfl), (Nat.le_of_ble_eq_true rfl)⟩) hP hD hK hS hA [0, 1, 2] [3, 4, 5, 6, 7, 8, 9, 10, 11, 12] rfl rfl (by decide) (by decide) (fun _ H locs hw hP hD _ hS => ?_)
    have hP : va_P (dC, dI) vwCl (bX6 a1 up kp p_p (bX8 a0 us ks o18 [])) H := hP
    have hD : va_D A (bX6 a1 up kp p_p (bX8 a0 us ks o18 [])) := hD
    obtain rfl := Option.some.inj h
    have hP9 := hP.sub (ws' := (bX8 a0 us ks o18 (bX6 a1 up kp p_p []))) [10, 11, 12, 0, 1, 2, 3, 4, 5, 6, 7, 8, 9] rfl
    have hD9 := hD.sub (ws' := (bX8 a0 us ks o18 (bX6 a1 up kp p_p []))) [10, 11, 12, 0, 1, 2, 3, 4, 5, 6, 7, 8, 9] (by decide) rfl
    have hK9 := hK.sub (tys' := []) [] rfl
    rw [hQQ]
    exact W.vret hx hb hr (fun t ht hW => ⟨⟨(), rfl, trivial, by rw [ht]; exact hP9, va_K.moved hW.alike hK9, hD9⟩, hS.F ht⟩) hS.2.2 dX8_fill_21
  · have h := (if_neg c5).symm.trans h
    refine lv_iload_n hx hb dX8_fill_8 rfl (lv_at hl 2 rfl) ?_
    refine lv_aload_n hx hb dX8_fill_9 rfl (lv_at hl 0 rfl) ?_
    refine va_get (D := (dC, dI)) (ci := 6) (v := .ref (us 0)) (C := RX8) (T := TX8) (N := 3) hx hb hts ifX8_fill_s2_X8 hown hK hP 0 rfl rfl 0 (by decide) (hts (.fieldLink RX8 9 "HookPier$Seats" "row" "[I") (List.mem_of_getElem? (i := 8) rfl)) (fun _ h9 => h9) rfl dX8_fill_10 ?_
    refine va_alen (v := 5) hx hb hK hP 1 0 rfl rfl rfl dX8_fill_13 ?_
    refine lv_icmp_lt (tgt := 22) hx hb dX8_fill_14 (by decide) (fun _ => ?_) (fun c14 => absurd c14 (by decide))
    refine lv_iload_n hx hb dX8_fill_22 rfl (lv_at hl 3 rfl) ?_
    refine lv_iload_n hx hb dX8_fill_23 rfl (lv_at hl 2 rfl) ?_
    refine lv_ishr hx hb dX8_fill_24 ?_
    refine lv_iconst (v := 1) hx hb dX8_fill_25 (by decide) ?_
    refine lv_iand hx hb dX8_fill_26 ?_
    refine lv_if_ne (tgt := 49) hx hb dX8_fill_27 (by decide) (fun c27 => ?_) (fun c27 => ?_)
    · have h := (if_neg c27).symm.trans h
      refine lv_iconst (v := 0) hx hb dX8_fill_49 (by decide) ?_
      refine lv_istore (lv' := [(5, .int 0), (0, .ref a0), (1, .ref a1), (2, .int 2), (3, .int k3), (4, .int k4)]) hx hb dX8_fill_50 hl (by decide) rfl (fun ls hl => ?_)
      have L52 : ∀ (n52 : Nat) (v52_l5 : Int32) (v52_s_s : TX8_s) (H : Heap) (locs : List Loc) (ls : Array Slot), f_X8_fill_s2_L52 k3 k4 p_p n52 v52_l5 v52_s_s = some out → va_P (dC, dI) vwCl (bX8 a0 us ks v52_s_s (bX6 a1 up kp p_p [])) H → va_D A (bX8 a0 us ks v52_s_s (bX6 a1 up kp p_p [])) → va_S A s.heap H locs → lv_has ls 6 [(5, .int v52_l5), (0, .ref a0), (1, .ref a1), (2, .int 2), (3, .int k3), (4, .int k4)] → W p l e (headSpec vfX8_fill_s2 { frames := 5, cells := 0, slots := 0, locals := 135 }).room s m ([.ref a0, .ref a1, .int 2, .int k3, .int k4]).toArray below meth c H locs 0 0 QQ (F0 m 52 ls []) := by
        intro n52
        induction n52 with
        | zero =>
          intro v52_l5 v52_s_s H locs ls h  _ _ _ _
          rw [f_X8_fill_s2_L52] at h
          cases h
        | succ n52 ih52 =>
          intro v52_l5 v52_s_s H locs ls h  hP hD hS hl
          rw [f_X8_fill_s2_L52] at h
          refine lv_iload hx hb dX8_fill_52 (lv_at hl 0 rfl) ?_
          refine lv_aload_n hx hb dX8_fill_54 rfl (lv_at hl 2 rfl) ?_
          refine va_get (D := (dC, dI)) (ci := 4) (v := .int p_p.1) (C := RX6) (T := TX6) (N := 18) hx hb hts ifX8_fill_s2_X6 hown hK hP 3 rfl rfl 0 (by decide) (hts (.fieldLink RX8 34 "HookPier$Plan" "spots" "I") (List.mem_of_getElem? (i := 14) rfl)) (fun _ h9 => h9) rfl dX8_fill_55 ?_
          refine lv_icmp_ge (tgt := 106) hx hb dX8_fill_58 (by decide) (fun c58 => ?_) (fun c58 => ?_)
          · have h := (if_pos c58).symm.trans h
            obtain rfl := Option.some.inj h
            have hP9 := hP.sub (ws' := (bX8 a0 us ks v52_s_s (bX6 a1 up kp p_p []))) [0, 1, 2, 3, 4, 5, 6, 7, 8, 9, 10, 11, 12] rfl
            have hD9 := hD.sub (ws' := (bX8 a0 us ks v52_s_s (bX6 a1 up kp p_p []))) [0, 1, 2, 3, 4, 5, 6, 7, 8, 9, 10, 11, 12] (by decide) rfl
            have hK9 := hK.sub (tys' := []) [] rfl
            rw [hQQ]
            exact W.vret hx hb hr (fun t ht hW => ⟨⟨(), rfl, trivial, by rw [ht]; exact hP9, va_K.moved hW.alike hK9, hD9⟩, hS.F ht⟩) hS.2.2 dX8_fill_106
          · have h := (if_neg c58).symm.trans h
            refine lv_aload_n hx hb dX8_fill_61 rfl (lv_at hl 1 rfl) ?_
            refine va_get (D := (dC, dI)) (ci := 6) (v := .int v52_s_s.2.2) (C := RX8) (T := TX8) (N := 3) hx hb hts ifX8_fill_s2_X8 hown hK hP 0 rfl rfl 2 (by decide) (hts (.fieldLink RX8 18 "HookPier$Seats" "found" "I") (List.mem_of_getElem? (i := 7) rfl)) (fun _ h9 => h9) rfl dX8_fill_62 ?_
            refine lv_iload hx hb dX8_fill_65 (lv_at hl 5 rfl) ?_
            refine lv_icmp_ge (tgt := 106) hx hb dX8_fill_67 (by decide) (fun c67 => ?_) (fun c67 => ?_)
            · have h := (if_pos c67).symm.trans h
              obtain rfl := Option.some.inj h
              have hP9 := hP.sub (ws' := (bX8 a0 us ks v52_s_s (bX6 a1 up kp p_p []))) [0, 1, 2, 3, 4, 5, 6, 7, 8, 9, 10, 11, 12] rfl
              have hD9 := hD.sub (ws' := (bX8 a0 us ks v52_s_s (bX6 a1 up kp p_p []))) [0, 1, 2, 3, 4, 5, 6, 7, 8, 9, 10, 11, 12] (by decide) rfl
              have hK9 := hK.sub (tys' := []) [] rfl
              rw [hQQ]
              exact W.vret hx hb hr (fun t ht hW => ⟨⟨(), rfl, trivial, by rw [ht]; exact hP9, va_K.moved hW.alike hK9, hD9⟩, hS.F ht⟩) hS.2.2 dX8_fill_106
            · have h := (if_neg c67).symm.trans h
              refine lv_aload_n hx hb dX8_fill_70 rfl (lv_at hl 1 rfl) ?_
              refine lv_aload_n hx hb dX8_fill_71 rfl (lv_at hl 2 rfl) ?_
              refine lv_iload_n hx hb dX8_fill_72 rfl (lv_at hl 3 rfl) ?_
              refine lv_iload hx hb dX8_fill_73 (lv_at hl 0 rfl) ?_
              obtain ⟨o75, eo75, h⟩ := bd_of h
              refine cl_i (wc := (bX8 a0 us ks v52_s_s (bX6 a1 up kp p_p []))) (wr := []) (va_runV (As := [.ref a1, .int 2, .int v52_l5]) (rest := []) ⟨hx, hb, hml, hown, hts⟩ (kfX8_isFree l dC dI a0 a1 (2 : Int32) v52_l5 us ks up kp v52_s_s p_p H.size o75 eo75) (cwV 3 hts gfX8_fill_s2_1 rfl rfl rfl (by decide +kernel) ⟨(Nat.le_of_ble_eq_true rfl), (Nat.le_of_ble_eq_true rfl)⟩) (PV (hP.sub (ws' := (bX8 a0 us ks v52_s_s (bX6 a1 up kp p_p []))) [0, 1, 2, 3, 4, 5, 6, 7, 8, 9, 10, 11, 12] rfl) (hK.sub (tys' := (tX8 ks (tX6 kp ([])))) [0, 1, 2, 3, 4, 5, 6, 7, 8, 9, 10] rfl) (hD.sub (ws' := (bX8 a0 us ks v52_s_s (bX6 a1 up kp p_p []))) [0, 1, 2, 3, 4, 5, 6, 7, 8, 9, 10, 11, 12] (by decide) rfl) hN 0 rfl rfl) rfl rfl hl.1 rfl (lv_room (Nat.le_of_ble_eq_true rfl)) dX8_fill_75 ⟨(Nat.le_of_ble_eq_true rfl), (Nat.le_of_ble_eq_true rfl)⟩) hP hD hK hS hA [0, 1, 2, 3, 4, 5, 6, 7, 8, 9, 10, 11, 12] [] rfl rfl (by decide) (by decide) (fun r75 _ H locs hw hP hD _ hS => ?_)
              obtain ⟨hw, br75⟩ := hw
              obtain rfl := hw.symm
              have hP : va_P (dC, dI) vwCl (bX8 a0 us ks v52_s_s (bX6 a1 up kp p_p [])) H := hP
              have hD : va_D A (bX8 a0 us ks v52_s_s (bX6 a1 up kp p_p [])) := hD
              have J100 : ∀ (v100_s_s : TX8_s) (H : Heap) (locs : List Loc) (ls : Array Slot), f_X8_fill_s2_J100 (f_X8_fill_s2_L52 k3 k4 p_p n52) v52_l5 v100_s_s = some out → va_P (dC, dI) vwCl (bX8 a0 us ks v100_s_s (bX6 a1 up kp p_p [])) H → va_D A (bX8 a0 us ks v100_s_s (bX6 a1 up kp p_p [])) → va_S A s.heap H locs → lv_has ls 6 [(5, .int v52_l5), (0, .ref a0), (1, .ref a1), (2, .int 2), (3, .int k3), (4, .int k4)] → W p l e (headSpec vfX8_fill_s2 { frames := 5, cells := 0, slots := 0, locals := 135 }).room s m ([.ref a0, .ref a1, .int 2, .int k3, .int k4]).toArray below meth c H locs 0 0 QQ (F0 m 100 ls []) := by
                intro v100_s_s H locs ls h  hP hD hS hl
                rw [f_X8_fill_s2_J100] at h
                refine lv_iinc (v := (v52_l5 + (1 : Int32))) (lv' := [(5, .int (v52_l5 + (1 : Int32))), (0, .ref a0), (1, .ref a1), (2, .int 2), (3, .int k3), (4, .int k4)]) hx hb dX8_fill_100 hl (k := 0) rfl rfl (by decide) rfl (fun ls hl => ?_)
                refine lv_goto (tgt := 52) hx hb dX8_fill_103 (by decide) ?_
                exact ih52 (v52_l5 + (1 : Int32)) v100_s_s H _ ls h  hP hD hS (lv_sub hl [0, 1, 2, 3, 4, 5] rfl)
              refine lv_if_eq (tgt := 100) hx hb dX8_fill_78 (by decide) (fun c78 => ?_) (fun c78 => ?_)
              · have h := (if_pos c78).symm.trans h
                exact J100 v52_s_s H _ ls h  hP hD hS (lv_sub hl [0, 1, 2, 3, 4, 5] rfl)
              · have h := (if_neg c78).symm.trans h
                refine lv_aload_n hx hb dX8_fill_81 rfl (lv_at hl 1 rfl) ?_
                refine va_get (D := (dC, dI)) (ci := 6) (v := .ref (us 0)) (C := RX8) (T := TX8) (N := 3) hx hb hts ifX8_fill_s2_X8 hown hK hP 0 rfl rfl 0 (by decide) (hts (.fieldLink RX8 9 "HookPier$Seats" "row" "[I") (List.mem_of_getElem? (i := 8) rfl)) (fun _ h9 => h9) rfl dX8_fill_82 ?_
                refine lv_iload_n hx hb dX8_fill_85 rfl (lv_at hl 3 rfl) ?_
                refine lv_iload hx hb dX8_fill_86 (lv_at hl 0 rfl) ?_
                refine va_iast hx hb hK hP hD hS 1 0 rfl rfl (by unfold vp_in; decide) dX8_fill_88 (fun H locs hP hD hS => ?_)
                have hP : va_P (dC, dI) vwCl (bX8 a0 us ks ((upd v52_s_s.1 ((2 : Int32)).toNatClampNeg v52_l5), v52_s_s.2) (bX6 a1 up kp p_p [])) H := hP
                have hD : va_D A (bX8 a0 us ks ((upd v52_s_s.1 ((2 : Int32)).toNatClampNeg v52_l5), v52_s_s.2) (bX6 a1 up kp p_p [])) := hD
                refine lv_aload_n hx hb dX8_fill_89 rfl (lv_at hl 1 rfl) ?_
                refine lv_aload_n hx hb dX8_fill_90 rfl (lv_at hl 2 rfl) ?_
                refine lv_iload_n hx hb dX8_fill_91 rfl (lv_at hl 3 rfl) ?_
                refine lv_iconst (v := 1) hx hb dX8_fill_92 (by decide) ?_
                refine lv_iadd hx hb dX8_fill_93 ?_
                refine lv_topi (fun z93 e93 => ?_)
                obtain rfl : z93 = 3 := e93.trans (by decide)
                refine lv_iload_n hx hb dX8_fill_94 rfl (lv_at hl 4 rfl) ?_
                refine lv_iload hx hb dX8_fill_95 (lv_at hl 5 rfl) ?_
                obtain ⟨o97, eo97, h⟩ := bd_of h
                refine cl_v (wc := (bX8 a0 us ks ((upd v52_s_s.1 ((2 : Int32)).toNatClampNeg v52_l5), v52_s_s.2) (bX6 a1 up kp p_p []))) (wr := []) (va_runV (As := [.ref a1, .int 3, .int k3, .int k4]) (rest := []) ⟨hx, hb, hml, hown, hts⟩ (kfX8_fill_s3 l dC dI a0 a1 k3 k4 us ks up kp ((upd v52_s_s.1 ((2 : Int32)).toNatClampNeg v52_l5), v52_s_s.2) p_p H.size o97 eo97) (cwV 4 hts gfX8_fill_s2_2 rfl rfl rfl (by decide +kernel) ⟨(Nat.le_of_ble_eq_true rfl), (Nat.le_of_ble_eq_true rfl)⟩) (PV (hP.sub (ws' := (bX8 a0 us ks ((upd v52_s_s.1 ((2 : Int32)).toNatClampNeg v52_l5), v52_s_s.2) (bX6 a1 up kp p_p []))) [0, 1, 2, 3, 4, 5, 6, 7, 8, 9, 10, 11, 12] rfl) (hK.sub (tys' := (tX8 ks (tX6 kp ([])))) [0, 1, 2, 3, 4, 5, 6, 7, 8, 9, 10] rfl) (hD.sub (ws' := (bX8 a0 us ks ((upd v52_s_s.1 ((2 : Int32)).toNatClampNeg v52_l5), v52_s_s.2) (bX6 a1 up kp p_p []))) [0, 1, 2, 3, 4, 5, 6, 7, 8, 9, 10, 11, 12] (by decide) rfl) hN 0 rfl rfl) rfl rfl hl.1 rfl (lv_room (Nat.le_of_ble_eq_true rfl)) dX8_fill_97 ⟨(Nat.le_of_ble_eq_true rfl), (Nat.le_of_ble_eq_true rfl)⟩) hP hD hK hS hA [0, 1, 2, 3, 4, 5, 6, 7, 8, 9, 10, 11, 12] [] rfl rfl (by decide) (by decide) (fun _ H locs hw hP hD _ hS => ?_)
                have hP : va_P (dC, dI) vwCl (bX8 a0 us ks o97 (bX6 a1 up kp p_p [])) H := hP
                have hD : va_D A (bX8 a0 us ks o97 (bX6 a1 up kp p_p [])) := hD
                exact J100 o97 H _ ls h  hP hD hS (lv_sub hl [0, 1, 2, 3, 4, 5] rfl)
      exact L52 FU (0 : Int32) s_s s.heap _ ls h  hP hD hS (lv_sub hl [0, 1, 2, 3, 4, 5] rfl)
    · have h := (if_pos c27).symm.trans h
      refine lv_aload_n hx hb dX8_fill_30 rfl (lv_at hl 0 rfl) ?_
      refine va_get (D := (dC, dI)) (ci := 6) (v := .ref (us 0)) (C := RX8) (T := TX8) (N := 3) hx hb hts ifX8_fill_s2_X8 hown hK hP 0 rfl rfl 0 (by decide) (hts (.fieldLink RX8 9 "HookPier$Seats" "row" "[I") (List.mem_of_getElem? (i := 8) rfl)) (fun _ h9 => h9) rfl dX8_fill_31 ?_
      refine lv_iload_n hx hb dX8_fill_34 rfl (lv_at hl 2 rfl) ?_
      refine lv_iconst (v := (-1)) hx hb dX8_fill_35 (by decide) ?_
      refine va_iast hx hb hK hP hD hS 1 0 rfl rfl (by unfold vp_in; decide) dX8_fill_36 (fun H locs hP hD hS => ?_)
      have hP : va_P (dC, dI) vwCl (bX8 a0 us ks ((upd s_s.1 ((2 : Int32)).toNatClampNeg (-1 : Int32)), s_s.2) (bX6 a1 up kp p_p [])) H := hP
      have hD : va_D A (bX8 a0 us ks ((upd s_s.1 ((2 : Int32)).toNatClampNeg (-1 : Int32)), s_s.2) (bX6 a1 up kp p_p [])) := hD
      refine lv_aload_n hx hb dX8_fill_37 rfl (lv_at hl 0 rfl) ?_
      refine lv_aload_n hx hb dX8_fill_38 rfl (lv_at hl 1 rfl) ?_
      refine lv_iload_n hx hb dX8_fill_39 rfl (lv_at hl 2 rfl) ?_
      refine lv_iconst (v := 1) hx hb dX8_fill_40 (by decide) ?_
      refine lv_iadd hx hb dX8_fill_41 ?_
      refine lv_topi (fun z41 e41 => ?_)
      obtain rfl : z41 = 3 := e41.trans (by decide)
      refine lv_iload_n hx hb dX8_fill_42 rfl (lv_at hl 3 rfl) ?_
      refine lv_iload hx hb dX8_fill_43 (lv_at hl 4 rfl) ?_
      obtain ⟨o45, eo45, h⟩ := bd_of h
      refine cl_v (wc := (bX8 a0 us ks ((upd s_s.1 ((2 : Int32)).toNatClampNeg (-1 : Int32)), s_s.2) (bX6 a1 up kp p_p []))) (wr := []) (va_runV (As := [.ref a1, .int 3, .int k3, .int k4]) (rest := []) ⟨hx, hb, hml, hown, hts⟩ (kfX8_fill_s3 l dC dI a0 a1 k3 k4 us ks up kp ((upd s_s.1 ((2 : Int32)).toNatClampNeg (-1 : Int32)), s_s.2) p_p H.size o45 eo45) (cwV 4 hts gfX8_fill_s2_2 rfl rfl rfl (by decide +kernel) ⟨(Nat.le_of_ble_eq_true rfl), (Nat.le_of_ble_eq_true rfl)⟩) (PV (hP.sub (ws' := (bX8 a0 us ks ((upd s_s.1 ((2 : Int32)).toNatClampNeg (-1 : Int32)), s_s.2) (bX6 a1 up kp p_p []))) [0, 1, 2, 3, 4, 5, 6, 7, 8, 9, 10, 11, 12] rfl) (hK.sub (tys' := (tX8 ks (tX6 kp ([])))) [0, 1, 2, 3, 4, 5, 6, 7, 8, 9, 10] rfl) (hD.sub (ws' := (bX8 a0 us ks ((upd s_s.1 ((2 : Int32)).toNatClampNeg (-1 : Int32)), s_s.2) (bX6 a1 up kp p_p []))) [0, 1, 2, 3, 4, 5, 6, 7, 8, 9, 10, 11, 12] (by decide) rfl) hN 0 rfl rfl) rfl rfl hl.1 rfl (lv_room (Nat.le_of_ble_eq_true rfl)) dX8_fill_45 ⟨(Nat.le_of_ble_eq_true rfl), (Nat.le_of_ble_eq_true rfl)⟩) hP hD hK hS hA [0, 1, 2, 3, 4, 5, 6, 7, 8, 9, 10, 11, 12] [] rfl rfl (by decide) (by decide) (fun _ H locs hw hP hD _ hS => ?_)
      have hP : va_P (dC, dI) vwCl (bX8 a0 us ks o45 (bX6 a1 up kp p_p [])) H := hP
      have hD : va_D A (bX8 a0 us ks o45 (bX6 a1 up kp p_p [])) := hD
      obtain rfl := Option.some.inj h
      have hP9 := hP.sub (ws' := (bX8 a0 us ks o45 (bX6 a1 up kp p_p []))) [0, 1, 2, 3, 4, 5, 6, 7, 8, 9, 10, 11, 12] rfl
      have hD9 := hD.sub (ws' := (bX8 a0 us ks o45 (bX6 a1 up kp p_p []))) [0, 1, 2, 3, 4, 5, 6, 7, 8, 9, 10, 11, 12] (by decide) rfl
      have hK9 := hK.sub (tys' := []) [] rfl
      rw [hQQ]
      exact W.vret hx hb hr (fun t ht hW => ⟨⟨(), rfl, trivial, by rw [ht]; exact hP9, va_K.moved hW.alike hK9, hD9⟩, hS.F ht⟩) hS.2.2 dX8_fill_48
def vfX8_fill_s1 : List Cond := .code yX8_fill cX8_fill 6 none :: ([.fieldLink RX8 26 "HookPier$Plan" "askers" "I", .methodLink RX8 31 yX8_keepRow, .instanceMethod yX8_keepRow, .selects RX8 yX8_keepRow yX8_keepRow, .initialized RX8, .code yX8_keepRow cX8_keepRow 1 none, .fieldLink RX8 18 "HookPier$Seats" "found" "I", .fieldLink RX8 9 "HookPier$Seats" "row" "[I", .fieldLink RX8 15 "HookPier$Seats" "first" "[I", .methodLink RX8 41 arraycopyName, .native arraycopyName, .static arraycopyName, .initialized "java/lang/System", .fieldLink RX8 34 "HookPier$Plan" "spots" "I", .methodLink RX8 37 yX8_isFree, .instanceMethod yX8_isFree, .selects RX8 yX8_isFree yX8_isFree, .code yX8_isFree cX8_isFree 5 (some .boolean), .methodLink RX8 47 yX6_isTangle, .instanceMethod yX6_isTangle, .selects RX6 yX6_isTangle yX6_isTangle, .initialized RX6, .code yX6_isTangle cX6_isTangle 5 (some .boolean), .methodLink RX6 89 Lib.Math.abs.name, .static Lib.Math.abs.name, .initialized "java/lang/Math", .code Lib.Math.abs.name Lib.Math.abs.code 1 (some .int), .fieldLink RX6 39 "HookPier$Plan" "reach" "[I", .methodLink RX8 22 yX8_fill, .instanceMethod yX8_fill, .selects RX8 yX8_fill yX8_fill, .code yX8_fill cX8_fill 6 none] ++ wsX60 ++ wsX80)
theorem ifX8_fill_s1_X6 : ∀ w ∈ wsX60, w ∈ vfX8_fill_s1 := fun _ h => List.mem_cons_of_mem _ (List.mem_append_left _ (List.mem_append_right _ h))
theorem ifX8_fill_s1_X8 : ∀ w ∈ wsX80, w ∈ vfX8_fill_s1 := fun _ h => List.mem_cons_of_mem _ (List.mem_append_right _ h)
set_option maxRecDepth 20000 in
theorem gfX8_fill_s1_0 : GoodIn vfX8_fill_s1 (wsV RX8 31 RX8 yX8_keepRow vfX8_keepRow) := goodIn_app (goodIn_r [.methodLink RX8 31 yX8_keepRow, .instanceMethod yX8_keepRow, .selects RX8 yX8_keepRow yX8_keepRow, .initialized RX8] [2, 3, 4, 5] (by decide +kernel) (by decide +kernel)) (goodIn_ca (goodIn_r (.code yX8_keepRow cX8_keepRow 1 none :: [.fieldLink RX8 18 "HookPier$Seats" "found" "I", .fieldLink RX8 9 "HookPier$Seats" "row" "[I", .fieldLink RX8 15 "HookPier$Seats" "first" "[I", .methodLink RX8 41 arraycopyName, .native arraycopyName, .static arraycopyName, .initialized "java/lang/System"]) [6, 7, 8, 9, 10, 11, 12, 13] (by decide +kernel) (by decide +kernel) : GoodIn vfX8_fill_s1 (.code yX8_keepRow cX8_keepRow 1 none :: [.fieldLink RX8 18 "HookPier$Seats" "found" "I", .fieldLink RX8 9 "HookPier$Seats" "row" "[I", .fieldLink RX8 15 "HookPier$Seats" "first" "[I", .methodLink RX8 41 arraycopyName, .native arraycopyName, .static arraycopyName, .initialized "java/lang/System"])) (goodIn_sub ifX8_fill_s1_X8 (by decide +kernel)))
set_option maxRecDepth 20000 in
theorem gfX8_fill_s1_1 : GoodIn vfX8_fill_s1 (wsV RX8 37 RX8 yX8_isFree vfX8_isFree) := goodIn_app (goodIn_r [.methodLink RX8 37 yX8_isFree, .instanceMethod yX8_isFree, .selects RX8 yX8_isFree yX8_isFree, .initialized RX8] [15, 16, 17, 5] (by decide +kernel) (by decide +kernel)) (goodIn_ca (goodIn_ca (goodIn_r (.code yX8_isFree cX8_isFree 5 (some .boolean) :: [.fieldLink RX8 9 "HookPier$Seats" "row" "[I", .methodLink RX8 47 yX6_isTangle, .instanceMethod yX6_isTangle, .selects RX6 yX6_isTangle yX6_isTangle, .initialized RX6, .code yX6_isTangle cX6_isTangle 5 (some .boolean), .methodLink RX6 89 Lib.Math.abs.name, .static Lib.Math.abs.name, .initialized "java/lang/Math", .code Lib.Math.abs.name Lib.Math.abs.code 1 (some .int), .fieldLink RX6 39 "HookPier$Plan" "reach" "[I"]) [18, 8, 19, 20, 21, 22, 23, 24, 25, 26, 27, 28] (by decide +kernel) (by decide +kernel) : GoodIn vfX8_fill_s1 (.code yX8_isFree cX8_isFree 5 (some .boolean) :: [.fieldLink RX8 9 "HookPier$Seats" "row" "[I", .methodLink RX8 47 yX6_isTangle, .instanceMethod yX6_isTangle, .selects RX6 yX6_isTangle yX6_isTangle, .initialized RX6, .code yX6_isTangle cX6_isTangle 5 (some .boolean), .methodLink RX6 89 Lib.Math.abs.name, .static Lib.Math.abs.name, .initialized "java/lang/Math", .code Lib.Math.abs.name Lib.Math.abs.code 1 (some .int), .fieldLink RX6 39 "HookPier$Plan" "reach" "[I"])) (goodIn_sub ifX8_fill_s1_X8 (by decide +kernel))) (goodIn_sub ifX8_fill_s1_X6 (by decide +kernel)))
set_option maxRecDepth 20000 in
theorem gfX8_fill_s1_2 : GoodIn vfX8_fill_s1 (wsV RX8 22 RX8 yX8_fill vfX8_fill_s2) := goodIn_app (goodIn_r [.methodLink RX8 22 yX8_fill, .instanceMethod yX8_fill, .selects RX8 yX8_fill yX8_fill, .initialized RX8] [29, 30, 31, 5] (by decide +kernel) (by decide +kernel)) (goodIn_ca (goodIn_ca (goodIn_r (.code yX8_fill cX8_fill 6 none :: [.fieldLink RX8 26 "HookPier$Plan" "askers" "I", .methodLink RX8 31 yX8_keepRow, .instanceMethod yX8_keepRow, .selects RX8 yX8_keepRow yX8_keepRow, .initialized RX8, .code yX8_keepRow cX8_keepRow 1 none, .fieldLink RX8 18 "HookPier$Seats" "found" "I", .fieldLink RX8 9 "HookPier$Seats" "row" "[I", .fieldLink RX8 15 "HookPier$Seats" "first" "[I", .methodLink RX8 41 arraycopyName, .native arraycopyName, .static arraycopyName, .initialized "java/lang/System", .fieldLink RX8 34 "HookPier$Plan" "spots" "I", .methodLink RX8 37 yX8_isFree, .instanceMethod yX8_isFree, .selects RX8 yX8_isFree yX8_isFree, .code yX8_isFree cX8_isFree 5 (some .boolean), .methodLink RX8 47 yX6_isTangle, .instanceMethod yX6_isTangle, .selects RX6 yX6_isTangle yX6_isTangle, .initialized RX6, .code yX6_isTangle cX6_isTangle 5 (some .boolean), .methodLink RX6 89 Lib.Math.abs.name, .static Lib.Math.abs.name, .initialized "java/lang/Math", .code Lib.Math.abs.name Lib.Math.abs.code 1 (some .int), .fieldLink RX6 39 "HookPier$Plan" "reach" "[I", .methodLink RX8 22 yX8_fill, .instanceMethod yX8_fill, .selects RX8 yX8_fill yX8_fill, .code yX8_fill cX8_fill 6 none]) [0, 1, 2, 3, 4, 5, 6, 7, 8, 9, 10, 11, 12, 13, 14, 15, 16, 17, 18, 19, 20, 21, 22, 23, 24, 25, 26, 27, 28, 29, 30, 31, 0] (by decide +kernel) (by decide +kernel) : GoodIn vfX8_fill_s1 (.code yX8_fill cX8_fill 6 none :: [.fieldLink RX8 26 "HookPier$Plan" "askers" "I", .methodLink RX8 31 yX8_keepRow, .instanceMethod yX8_keepRow, .selects RX8 yX8_keepRow yX8_keepRow, .initialized RX8, .code yX8_keepRow cX8_keepRow 1 none, .fieldLink RX8 18 "HookPier$Seats" "found" "I", .fieldLink RX8 9 "HookPier$Seats" "row" "[I", .fieldLink RX8 15 "HookPier$Seats" "first" "[I", .methodLink RX8 41 arraycopyName, .native arraycopyName, .static arraycopyName, .initialized "java/lang/System", .fieldLink RX8 34 "HookPier$Plan" "spots" "I", .methodLink RX8 37 yX8_isFree, .instanceMethod yX8_isFree, .selects RX8 yX8_isFree yX8_isFree, .code yX8_isFree cX8_isFree 5 (some .boolean), .methodLink RX8 47 yX6_isTangle, .instanceMethod yX6_isTangle, .selects RX6 yX6_isTangle yX6_isTangle, .initialized RX6, .code yX6_isTangle cX6_isTangle 5 (some .boolean), .methodLink RX6 89 Lib.Math.abs.name, .static Lib.Math.abs.name, .initialized "java/lang/Math", .code Lib.Math.abs.name Lib.Math.abs.code 1 (some .int), .fieldLink RX6 39 "HookPier$Plan" "reach" "[I", .methodLink RX8 22 yX8_fill, .instanceMethod yX8_fill, .selects RX8 yX8_fill yX8_fill, .code yX8_fill cX8_fill 6 none])) (goodIn_sub ifX8_fill_s1_X6 (by decide +kernel))) (goodIn_sub ifX8_fill_s1_X8 (by decide +kernel)))
set_option maxHeartbeats 2000000 in
set_option maxRecDepth 100000 in
theorem kfX8_fill_s1 (l : Launch) (dC : Nat → ClassId) (dI : Nat → Nat → Nat) (a0 : Nat) (a1 : Nat) (k3 : Int32) (k4 : Int32) (us : Nat → Nat) (ks : Nat → ClassId) (up : Nat → Nat) (kp : Nat → ClassId) (s_s : TX8_s) (p_p : TX6_p) (sz : Nat) (out : TX8_s) (h : f_X8_fill_s1 k3 k4 s_s p_p = some out) : Met l yX8_fill vfX8_fill_s1 ({ frames := 6, cells := 0, slots := 0, locals := 160 }) (PC (dC, dI) [.ref a0, .ref a1, .int 1, .int k3, .int k4] sz (bX8 a0 us ks s_s (bX6 a1 up kp p_p [])) (tX8 ks (tX6 kp ([])))) (va_Qv (S := Unit) (fun _ => True) (fun _ t => BC (dC, dI) (va_A (bX8 a0 us ks s_s (bX6 a1 up kp p_p [])) sz) (bX8 a0 us ks out (bX6 a1 up kp p_p [])) [] t) (va_A (bX8 a0 us ks s_s (bX6 a1 up kp p_p [])) sz)) 0 0 (va_A (bX8 a0 us ks s_s (bX6 a1 up kp p_p [])) sz) := by
  refine Met.ofW (cc := cX8_fill) (maxL := 6) (ret := none) (by decide) rfl ?_
  intro p e s m args below meth c s₁ B0 hml hv
  obtain ⟨rfl, hsz, hP, hK, hD0, hN⟩ := hv
  have hx := B0.exec
  have hb := B0.bytes
  have hr := B0.returns
  have hts := atoms_spec (ws := vfX8_fill_s1) B0.pre
  have hown : s.vm.findClass RX8 = some m.cls := findClass_of_methodNamed B0.named
  have hlocks := B0.notSynchronized
  subst hsz
  have hD := hD0.self (sz := s.heap.size)
  generalize hAe : va_A (bX8 a0 us ks s_s (bX6 a1 up kp p_p [])) s.heap.size = A at hD ⊢
  have hA : ∀ q : Nat, s.heap.size ≤ q → A q := fun q h => by rw [← hAe]; exact Or.inr h
  have hS : va_S A s.heap s.heap [] := va_S.rf
  have hP : va_P (dC, dI) vwCl (bX8 a0 us ks s_s (bX6 a1 up kp p_p [])) s.heap := hP
  have hl := lv_entry ([.ref a0, .ref a1, .int 1, .int k3, .int k4]) (n := 6) (Nat.le_of_ble_eq_true rfl)
  rw [lg_entry_eq]
  generalize (lg_sl ([.ref a0, .ref a1, .int 1, .int k3, .int k4]) ++ List.replicate (6 - (lg_sl ([.ref a0, .ref a1, .int 1, .int k3, .int k4])).length) Slot.unset).toArray = ls at hl ⊢
  have hl : lv_has ls 6 [(0, .ref a0), (1, .ref a1), (2, .int 1), (3, .int k3), (4, .int k4)] := hl
  refine W_q (fun QQ hQQ => ?_)
  rw [f_X8_fill_s1] at h
  refine lv_iload_n hx hb dX8_fill_0 rfl (lv_at hl 2 rfl) ?_
  refine lv_aload_n hx hb dX8_fill_1 rfl (lv_at hl 1 rfl) ?_
  refine va_get (D := (dC, dI)) (ci := 4) (v := .int p_p.2.2.2.2.2.1) (C := RX6) (T := TX6) (N := 18) hx hb hts ifX8_fill_s1_X6 hown hK hP 3 rfl rfl 5 (by decide) (hts (.fieldLink RX8 26 "HookPier$Plan" "askers" "I") (List.mem_of_getElem? (i := 1) rfl)) (fun _ h9 => h9) rfl dX8_fill_2 ?_
  refine lv_icmp_ge (tgt := 17) hx hb dX8_fill_5 (by decide) (fun c5 => ?_) (fun c5 => ?_)
  · have h := (if_pos c5).symm.trans h
    refine lv_aload_n hx hb dX8_fill_17 rfl (lv_at hl 0 rfl) ?_
    obtain ⟨o18, eo18⟩ : ∃ o, o = f_X8_keepRow s_s := ⟨_, rfl⟩
    have h := nm_of h o18 eo18
    refine cl_v (wc := (bX8 a0 us ks s_s [])) (wr := (bX6 a1 up kp p_p [])) (va_runV (As := []) (rest := []) ⟨hx, hb, hml, hown, hts⟩ (kfX8_keepRow l dC dI a0 us ks s_s s.heap.size o18 eo18.symm) (cwV 0 hts gfX8_fill_s1_0 rfl rfl rfl (by decide +kernel) ⟨(Nat.le_of_ble_eq_true rfl), (Nat.le_of_ble_eq_true rfl)⟩) (PV (hP.sub (ws' := (bX8 a0 us ks s_s [])) [0, 1, 2] rfl) (hK.sub (tys' := (tX8 ks ([]))) [0, 1] rfl) (hD.sub (ws' := (bX8 a0 us ks s_s [])) [0, 1, 2] (by decide) rfl) hN 0 rfl rfl) rfl rfl hl.1 rfl (lv_room (Nat.le_of_ble_eq_true rfl)) dX8_fill_18 ⟨(Nat.le_of_ble_eq_true rfl), (Nat.le_of_ble_eq_true rfl)⟩) hP hD hK hS hA [0, 1, 2] [3, 4, 5, 6, 7, 8, 9, 10, 11, 12] rfl rfl (by decide) (by decide) (fun _ H locs hw hP hD _ hS => ?_)
    have hP : va_P (dC, dI) vwCl (bX6 a1 up kp p_p (bX8 a0 us ks o18 [])) H := hP
    have hD : va_D A (bX6 a1 up kp p_p (bX8 a0 us ks o18 [])) := hD
    obtain rfl := Option.some.inj h
    have hP9 := hP.sub (ws' := (bX8 a0 us ks o18 (bX6 a1 up kp p_p []))) [10, 11, 12, 0, 1, 2, 3, 4, 5, 6, 7, 8, 9] rfl
    have hD9 := hD.sub (ws' := (bX8 a0 us ks o18 (bX6 a1 up kp p_p []))) [10, 11, 12, 0, 1, 2, 3, 4, 5, 6, 7, 8, 9] (by decide) rfl
    have hK9 := hK.sub (tys' := []) [] rfl
    rw [hQQ]
    exact W.vret hx hb hr (fun t ht hW => ⟨⟨(), rfl, trivial, by rw [ht]; exact hP9, va_K.moved hW.alike hK9, hD9⟩, hS.F ht⟩) hS.2.2 dX8_fill_21
  · have h := (if_neg c5).symm.trans h
    refine lv_iload_n hx hb dX8_fill_8 rfl (lv_at hl 2 rfl) ?_
    refine lv_aload_n hx hb dX8_fill_9 rfl (lv_at hl 0 rfl) ?_
    refine va_get (D := (dC, dI)) (ci := 6) (v := .ref (us 0)) (C := RX8) (T := TX8) (N := 3) hx hb hts ifX8_fill_s1_X8 hown hK hP 0 rfl rfl 0 (by decide) (hts (.fieldLink RX8 9 "HookPier$Seats" "row" "[I") (List.mem_of_getElem? (i := 8) rfl)) (fun _ h9 => h9) rfl dX8_fill_10 ?_
    refine va_alen (v := 5) hx hb hK hP 1 0 rfl rfl rfl dX8_fill_13 ?_
    refine lv_icmp_lt (tgt := 22) hx hb dX8_fill_14 (by decide) (fun _ => ?_) (fun c14 => absurd c14 (by decide))
    refine lv_iload_n hx hb dX8_fill_22 rfl (lv_at hl 3 rfl) ?_
    refine lv_iload_n hx hb dX8_fill_23 rfl (lv_at hl 2 rfl) ?_
    refine lv_ishr hx hb dX8_fill_24 ?_
    refine lv_iconst (v := 1) hx hb dX8_fill_25 (by decide) ?_
    refine lv_iand hx hb dX8_fill_26 ?_
    refine lv_if_ne (tgt := 49) hx hb dX8_fill_27 (by decide) (fun c27 => ?_) (fun c27 => ?_)
    · have h := (if_neg c27).symm.trans h
      refine lv_iconst (v := 0) hx hb dX8_fill_49 (by decide) ?_
      refine lv_istore (lv' := [(5, .int 0), (0, .ref a0), (1, .ref a1), (2, .int 1), (3, .int k3), (4, .int k4)]) hx hb dX8_fill_50 hl (by decide) rfl (fun ls hl => ?_)
      have L52 : ∀ (n52 : Nat) (v52_l5 : Int32) (v52_s_s : TX8_s) (H : Heap) (locs : List Loc) (ls : Array Slot), f_X8_fill_s1_L52 k3 k4 p_p n52 v52_l5 v52_s_s = some out → va_P (dC, dI) vwCl (bX8 a0 us ks v52_s_s (bX6 a1 up kp p_p [])) H → va_D A (bX8 a0 us ks v52_s_s (bX6 a1 up kp p_p [])) → va_S A s.heap H locs → lv_has ls 6 [(5, .int v52_l5), (0, .ref a0), (1, .ref a1), (2, .int 1), (3, .int k3), (4, .int k4)] → W p l e (headSpec vfX8_fill_s1 { frames := 6, cells := 0, slots := 0, locals := 160 }).room s m ([.ref a0, .ref a1, .int 1, .int k3, .int k4]).toArray below meth c H locs 0 0 QQ (F0 m 52 ls []) := by
        intro n52
        induction n52 with
        | zero =>
          intro v52_l5 v52_s_s H locs ls h  _ _ _ _
          rw [f_X8_fill_s1_L52] at h
          cases h
        | succ n52 ih52 =>
          intro v52_l5 v52_s_s H locs ls h  hP hD hS hl
          rw [f_X8_fill_s1_L52] at h
          refine lv_iload hx hb dX8_fill_52 (lv_at hl 0 rfl) ?_
          refine lv_aload_n hx hb dX8_fill_54 rfl (lv_at hl 2 rfl) ?_
          refine va_get (D := (dC, dI)) (ci := 4) (v := .int p_p.1) (C := RX6) (T := TX6) (N := 18) hx hb hts ifX8_fill_s1_X6 hown hK hP 3 rfl rfl 0 (by decide) (hts (.fieldLink RX8 34 "HookPier$Plan" "spots" "I") (List.mem_of_getElem? (i := 14) rfl)) (fun _ h9 => h9) rfl dX8_fill_55 ?_
          refine lv_icmp_ge (tgt := 106) hx hb dX8_fill_58 (by decide) (fun c58 => ?_) (fun c58 => ?_)
          · have h := (if_pos c58).symm.trans h
            obtain rfl := Option.some.inj h
            have hP9 := hP.sub (ws' := (bX8 a0 us ks v52_s_s (bX6 a1 up kp p_p []))) [0, 1, 2, 3, 4, 5, 6, 7, 8, 9, 10, 11, 12] rfl
            have hD9 := hD.sub (ws' := (bX8 a0 us ks v52_s_s (bX6 a1 up kp p_p []))) [0, 1, 2, 3, 4, 5, 6, 7, 8, 9, 10, 11, 12] (by decide) rfl
            have hK9 := hK.sub (tys' := []) [] rfl
            rw [hQQ]
            exact W.vret hx hb hr (fun t ht hW => ⟨⟨(), rfl, trivial, by rw [ht]; exact hP9, va_K.moved hW.alike hK9, hD9⟩, hS.F ht⟩) hS.2.2 dX8_fill_106
          · have h := (if_neg c58).symm.trans h
            refine lv_aload_n hx hb dX8_fill_61 rfl (lv_at hl 1 rfl) ?_
            refine va_get (D := (dC, dI)) (ci := 6) (v := .int v52_s_s.2.2) (C := RX8) (T := TX8) (N := 3) hx hb hts ifX8_fill_s1_X8 hown hK hP 0 rfl rfl 2 (by decide) (hts (.fieldLink RX8 18 "HookPier$Seats" "found" "I") (List.mem_of_getElem? (i := 7) rfl)) (fun _ h9 => h9) rfl dX8_fill_62 ?_
            refine lv_iload hx hb dX8_fill_65 (lv_at hl 5 rfl) ?_
            refine lv_icmp_ge (tgt := 106) hx hb dX8_fill_67 (by decide) (fun c67 => ?_) (fun c67 => ?_)
            · have h := (if_pos c67).symm.trans h
              obtain rfl := Option.some.inj h
              have hP9 := hP.sub (ws' := (bX8 a0 us ks v52_s_s (bX6 a1 up kp p_p []))) [0, 1, 2, 3, 4, 5, 6, 7, 8, 9, 10, 11, 12] rfl
              have hD9 := hD.sub (ws' := (bX8 a0 us ks v52_s_s (bX6 a1 up kp p_p []))) [0, 1, 2, 3, 4, 5, 6, 7, 8, 9, 10, 11, 12] (by decide) rfl
              have hK9 := hK.sub (tys' := []) [] rfl
              rw [hQQ]
              exact W.vret hx hb hr (fun t ht hW => ⟨⟨(), rfl, trivial, by rw [ht]; exact hP9, va_K.moved hW.alike hK9, hD9⟩, hS.F ht⟩) hS.2.2 dX8_fill_106
            · have h := (if_neg c67).symm.trans h
              refine lv_aload_n hx hb dX8_fill_70 rfl (lv_at hl 1 rfl) ?_
              refine lv_aload_n hx hb dX8_fill_71 rfl (lv_at hl 2 rfl) ?_
              refine lv_iload_n hx hb dX8_fill_72 rfl (lv_at hl 3 rfl) ?_
              refine lv_iload hx hb dX8_fill_73 (lv_at hl 0 rfl) ?_
              obtain ⟨o75, eo75, h⟩ := bd_of h
              refine cl_i (wc := (bX8 a0 us ks v52_s_s (bX6 a1 up kp p_p []))) (wr := []) (va_runV (As := [.ref a1, .int 1, .int v52_l5]) (rest := []) ⟨hx, hb, hml, hown, hts⟩ (kfX8_isFree l dC dI a0 a1 (1 : Int32) v52_l5 us ks up kp v52_s_s p_p H.size o75 eo75) (cwV 3 hts gfX8_fill_s1_1 rfl rfl rfl (by decide +kernel) ⟨(Nat.le_of_ble_eq_true rfl), (Nat.le_of_ble_eq_true rfl)⟩) (PV (hP.sub (ws' := (bX8 a0 us ks v52_s_s (bX6 a1 up kp p_p []))) [0, 1, 2, 3, 4, 5, 6, 7, 8, 9, 10, 11, 12] rfl) (hK.sub (tys' := (tX8 ks (tX6 kp ([])))) [0, 1, 2, 3, 4, 5, 6, 7, 8, 9, 10] rfl) (hD.sub (ws' := (bX8 a0 us ks v52_s_s (bX6 a1 up kp p_p []))) [0, 1, 2, 3, 4, 5, 6, 7, 8, 9, 10, 11, 12] (by decide) rfl) hN 0 rfl rfl) rfl rfl hl.1 rfl (lv_room (Nat.le_of_ble_eq_true rfl)) dX8_fill_75 ⟨(Nat.le_of_ble_eq_true rfl), (Nat.le_of_ble_eq_true rfl)⟩) hP hD hK hS hA [0, 1, 2, 3, 4, 5, 6, 7, 8, 9, 10, 11, 12] [] rfl rfl (by decide) (by decide) (fun r75 _ H locs hw hP hD _ hS => ?_)
              obtain ⟨hw, br75⟩ := hw
              obtain rfl := hw.symm
              have hP : va_P (dC, dI) vwCl (bX8 a0 us ks v52_s_s (bX6 a1 up kp p_p [])) H := hP
              have hD : va_D A (bX8 a0 us ks v52_s_s (bX6 a1 up kp p_p [])) := hD
              have J100 : ∀ (v100_s_s : TX8_s) (H : Heap) (locs : List Loc) (ls : Array Slot), f_X8_fill_s1_J100 (f_X8_fill_s1_L52 k3 k4 p_p n52) v52_l5 v100_s_s = some out → va_P (dC, dI) vwCl (bX8 a0 us ks v100_s_s (bX6 a1 up kp p_p [])) H → va_D A (bX8 a0 us ks v100_s_s (bX6 a1 up kp p_p [])) → va_S A s.heap H locs → lv_has ls 6 [(5, .int v52_l5), (0, .ref a0), (1, .ref a1), (2, .int 1), (3, .int k3), (4, .int k4)] → W p l e (headSpec vfX8_fill_s1 { frames := 6, cells := 0, slots := 0, locals := 160 }).room s m ([.ref a0, .ref a1, .int 1, .int k3, .int k4]).toArray below meth c H locs 0 0 QQ (F0 m 100 ls []) := by
                intro v100_s_s H locs ls h  hP hD hS hl
                rw [f_X8_fill_s1_J100] at h
                refine lv_iinc (v := (v52_l5 + (1 : Int32))) (lv' := [(5, .int (v52_l5 + (1 : Int32))), (0, .ref a0), (1, .ref a1), (2, .int 1), (3, .int k3), (4, .int k4)]) hx hb dX8_fill_100 hl (k := 0) rfl rfl (by decide) rfl (fun ls hl => ?_)
                refine lv_goto (tgt := 52) hx hb dX8_fill_103 (by decide) ?_
                exact ih52 (v52_l5 + (1 : Int32)) v100_s_s H _ ls h  hP hD hS (lv_sub hl [0, 1, 2, 3, 4, 5] rfl)
              refine lv_if_eq (tgt := 100) hx hb dX8_fill_78 (by decide) (fun c78 => ?_) (fun c78 => ?_)
              · have h := (if_pos c78).symm.trans h
                exact J100 v52_s_s H _ ls h  hP hD hS (lv_sub hl [0, 1, 2, 3, 4, 5] rfl)
              · have h := (if_neg c78).symm.trans h
                refine lv_aload_n hx hb dX8_fill_81 rfl (lv_at hl 1 rfl) ?_
                refine va_get (D := (dC, dI)) (ci := 6) (v := .ref (us 0)) (C := RX8) (T := TX8) (N := 3) hx hb hts ifX8_fill_s1_X8 hown hK hP 0 rfl rfl 0 (by decide) (hts (.fieldLink RX8 9 "HookPier$Seats" "row" "[I") (List.mem_of_getElem? (i := 8) rfl)) (fun _ h9 => h9) rfl dX8_fill_82 ?_
                refine lv_iload_n hx hb dX8_fill_85 rfl (lv_at hl 3 rfl) ?_
                refine lv_iload hx hb dX8_fill_86 (lv_at hl 0 rfl) ?_
                refine va_iast hx hb hK hP hD hS 1 0 rfl rfl (by unfold vp_in; decide) dX8_fill_88 (fun H locs hP hD hS => ?_)
                have hP : va_P (dC, dI) vwCl (bX8 a0 us ks ((upd v52_s_s.1 ((1 : Int32)).toNatClampNeg v52_l5), v52_s_s.2) (bX6 a1 up kp p_p [])) H := hP
                have hD : va_D A (bX8 a0 us ks ((upd v52_s_s.1 ((1 : Int32)).toNatClampNeg v52_l5), v52_s_s.2) (bX6 a1 up kp p_p [])) := hD
                refine lv_aload_n hx hb dX8_fill_89 rfl (lv_at hl 1 rfl) ?_
                refine lv_aload_n hx hb dX8_fill_90 rfl (lv_at hl 2 rfl) ?_
                refine lv_iload_n hx hb dX8_fill_91 rfl (lv_at hl 3 rfl) ?_
                refine lv_iconst (v := 1) hx hb dX8_fill_92 (by decide) ?_
                refine lv_iadd hx hb dX8_fill_93 ?_
                refine lv_topi (fun z93 e93 => ?_)
                obtain rfl : z93 = 2 := e93.trans (by decide)
                refine lv_iload_n hx hb dX8_fill_94 rfl (lv_at hl 4 rfl) ?_
                refine lv_iload hx hb dX8_fill_95 (lv_at hl 5 rfl) ?_
                obtain ⟨o97, eo97, h⟩ := bd_of h
                refine cl_v (wc := (bX8 a0 us ks ((upd v52_s_s.1 ((1 : Int32)).toNatClampNeg v52_l5), v52_s_s.2) (bX6 a1 up kp p_p []))) (wr := []) (va_runV (As := [.ref a1, .int 2, .int k3, .int k4]) (rest := []) ⟨hx, hb, hml, hown, hts⟩ (kfX8_fill_s2 l dC dI a0 a1 k3 k4 us ks up kp ((upd v52_s_s.1 ((1 : Int32)).toNatClampNeg v52_l5), v52_s_s.2) p_p H.size o97 eo97) (cwV 4 hts gfX8_fill_s1_2 rfl rfl rfl (by decide +kernel) ⟨(Nat.le_of_ble_eq_true rfl), (Nat.le_of_ble_eq_true rfl)⟩) (PV (hP.sub (ws' := (bX8 a0 us ks ((upd v52_s_s.1 ((1 : Int32)).toNatClampNeg v52_l5), v52_s_s.2) (bX6 a1 up kp p_p []))) [0, 1, 2, 3, 4, 5, 6, 7, 8, 9, 10, 11, 12] rfl) (hK.sub (tys' := (tX8 ks (tX6 kp ([])))) [0, 1, 2, 3, 4, 5, 6, 7, 8, 9, 10] rfl) (hD.sub (ws' := (bX8 a0 us ks ((upd v52_s_s.1 ((1 : Int32)).toNatClampNeg v52_l5), v52_s_s.2) (bX6 a1 up kp p_p []))) [0, 1, 2, 3, 4, 5, 6, 7, 8, 9, 10, 11, 12] (by decide) rfl) hN 0 rfl rfl) rfl rfl hl.1 rfl (lv_room (Nat.le_of_ble_eq_true rfl)) dX8_fill_97 ⟨(Nat.le_of_ble_eq_true rfl), (Nat.le_of_ble_eq_true rfl)⟩) hP hD hK hS hA [0, 1, 2, 3, 4, 5, 6, 7, 8, 9, 10, 11, 12] [] rfl rfl (by decide) (by decide) (fun _ H locs hw hP hD _ hS => ?_)
                have hP : va_P (dC, dI) vwCl (bX8 a0 us ks o97 (bX6 a1 up kp p_p [])) H := hP
                have hD : va_D A (bX8 a0 us ks o97 (bX6 a1 up kp p_p [])) := hD
                exact J100 o97 H _ ls h  hP hD hS (lv_sub hl [0, 1, 2, 3, 4, 5] rfl)
      exact L52 FU (0 : Int32) s_s s.heap _ ls h  hP hD hS (lv_sub hl [0, 1, 2, 3, 4, 5] rfl)
    · have h := (if_pos c27).symm.trans h
      refine lv_aload_n hx hb dX8_fill_30 rfl (lv_at hl 0 rfl) ?_
      refine va_get (D := (dC, dI)) (ci := 6) (v := .ref (us 0)) (C := RX8) (T := TX8) (N := 3) hx hb hts ifX8_fill_s1_X8 hown hK hP 0 rfl rfl 0 (by decide) (hts (.fieldLink RX8 9 "HookPier$Seats" "row" "[I") (List.mem_of_getElem? (i := 8) rfl)) (fun _ h9 => h9) rfl dX8_fill_31 ?_
      refine lv_iload_n hx hb dX8_fill_34 rfl (lv_at hl 2 rfl) ?_
      refine lv_iconst (v := (-1)) hx hb dX8_fill_35 (by decide) ?_
      refine va_iast hx hb hK hP hD hS 1 0 rfl rfl (by unfold vp_in; decide) dX8_fill_36 (fun H locs hP hD hS => ?_)
      have hP : va_P (dC, dI) vwCl (bX8 a0 us ks ((upd s_s.1 ((1 : Int32)).toNatClampNeg (-1 : Int32)), s_s.2) (bX6 a1 up kp p_p [])) H := hP
      have hD : va_D A (bX8 a0 us ks ((upd s_s.1 ((1 : Int32)).toNatClampNeg (-1 : Int32)), s_s.2) (bX6 a1 up kp p_p [])) := hD
      refine lv_aload_n hx hb dX8_fill_37 rfl (lv_at hl 0 rfl) ?_
      refine lv_aload_n hx hb dX8_fill_38 rfl (lv_at hl 1 rfl) ?_
      refine lv_iload_n hx hb dX8_fill_39 rfl (lv_at hl 2 rfl) ?_
      refine lv_iconst (v := 1) hx hb dX8_fill_40 (by decide) ?_
      refine lv_iadd hx hb dX8_fill_41 ?_
      refine lv_topi (fun z41 e41 => ?_)
      obtain rfl : z41 = 2 := e41.trans (by decide)
      refine lv_iload_n hx hb dX8_fill_42 rfl (lv_at hl 3 rfl) ?_
      refine lv_iload hx hb dX8_fill_43 (lv_at hl 4 rfl) ?_
      obtain ⟨o45, eo45, h⟩ := bd_of h
      refine cl_v (wc := (bX8 a0 us ks ((upd s_s.1 ((1 : Int32)).toNatClampNeg (-1 : Int32)), s_s.2) (bX6 a1 up kp p_p []))) (wr := []) (va_runV (As := [.ref a1, .int 2, .int k3, .int k4]) (rest := []) ⟨hx, hb, hml, hown, hts⟩ (kfX8_fill_s2 l dC dI a0 a1 k3 k4 us ks up kp ((upd s_s.1 ((1 : Int32)).toNatClampNeg (-1 : Int32)), s_s.2) p_p H.size o45 eo45) (cwV 4 hts gfX8_fill_s1_2 rfl rfl rfl (by decide +kernel) ⟨(Nat.le_of_ble_eq_true rfl), (Nat.le_of_ble_eq_true rfl)⟩) (PV (hP.sub (ws' := (bX8 a0 us ks ((upd s_s.1 ((1 : Int32)).toNatClampNeg (-1 : Int32)), s_s.2) (bX6 a1 up kp p_p []))) [0, 1, 2, 3, 4, 5, 6, 7, 8, 9, 10, 11, 12] rfl) (hK.sub (tys' := (tX8 ks (tX6 kp ([])))) [0, 1, 2, 3, 4, 5, 6, 7, 8, 9, 10] rfl) (hD.sub (ws' := (bX8 a0 us ks ((upd s_s.1 ((1 : Int32)).toNatClampNeg (-1 : Int32)), s_s.2) (bX6 a1 up kp p_p []))) [0, 1, 2, 3, 4, 5, 6, 7, 8, 9, 10, 11, 12] (by decide) rfl) hN 0 rfl rfl) rfl rfl hl.1 rfl (lv_room (Nat.le_of_ble_eq_true rfl)) dX8_fill_45 ⟨(Nat.le_of_ble_eq_true rfl), (Nat.le_of_ble_eq_true rfl)⟩) hP hD hK hS hA [0, 1, 2, 3, 4, 5, 6, 7, 8, 9, 10, 11, 12] [] rfl rfl (by decide) (by decide) (fun _ H locs hw hP hD _ hS => ?_)
      have hP : va_P (dC, dI) vwCl (bX8 a0 us ks o45 (bX6 a1 up kp p_p [])) H := hP
      have hD : va_D A (bX8 a0 us ks o45 (bX6 a1 up kp p_p [])) := hD
      obtain rfl := Option.some.inj h
      have hP9 := hP.sub (ws' := (bX8 a0 us ks o45 (bX6 a1 up kp p_p []))) [0, 1, 2, 3, 4, 5, 6, 7, 8, 9, 10, 11, 12] rfl
      have hD9 := hD.sub (ws' := (bX8 a0 us ks o45 (bX6 a1 up kp p_p []))) [0, 1, 2, 3, 4, 5, 6, 7, 8, 9, 10, 11, 12] (by decide) rfl
      have hK9 := hK.sub (tys' := []) [] rfl
      rw [hQQ]
      exact W.vret hx hb hr (fun t ht hW => ⟨⟨(), rfl, trivial, by rw [ht]; exact hP9, va_K.moved hW.alike hK9, hD9⟩, hS.F ht⟩) hS.2.2 dX8_fill_48
def vfX8_fill_s0 : List Cond := .code yX8_fill cX8_fill 6 none :: ([.fieldLink RX8 26 "HookPier$Plan" "askers" "I", .methodLink RX8 31 yX8_keepRow, .instanceMethod yX8_keepRow, .selects RX8 yX8_keepRow yX8_keepRow, .initialized RX8, .code yX8_keepRow cX8_keepRow 1 none, .fieldLink RX8 18 "HookPier$Seats" "found" "I", .fieldLink RX8 9 "HookPier$Seats" "row" "[I", .fieldLink RX8 15 "HookPier$Seats" "first" "[I", .methodLink RX8 41 arraycopyName, .native arraycopyName, .static arraycopyName, .initialized "java/lang/System", .fieldLink RX8 34 "HookPier$Plan" "spots" "I", .methodLink RX8 37 yX8_isFree, .instanceMethod yX8_isFree, .selects RX8 yX8_isFree yX8_isFree, .code yX8_isFree cX8_isFree 5 (some .boolean), .methodLink RX8 47 yX6_isTangle, .instanceMethod yX6_isTangle, .selects RX6 yX6_isTangle yX6_isTangle, .initialized RX6, .code yX6_isTangle cX6_isTangle 5 (some .boolean), .methodLink RX6 89 Lib.Math.abs.name, .static Lib.Math.abs.name, .initialized "java/lang/Math", .code Lib.Math.abs.name Lib.Math.abs.code 1 (some .int), .fieldLink RX6 39 "HookPier$Plan" "reach" "[I", .methodLink RX8 22 yX8_fill, .instanceMethod yX8_fill, .selects RX8 yX8_fill yX8_fill, .code yX8_fill cX8_fill 6 none] ++ wsX60 ++ wsX80)
theorem ifX8_fill_s0_X6 : ∀ w ∈ wsX60, w ∈ vfX8_fill_s0 := fun _ h => List.mem_cons_of_mem _ (List.mem_append_left _ (List.mem_append_right _ h))
theorem ifX8_fill_s0_X8 : ∀ w ∈ wsX80, w ∈ vfX8_fill_s0 := fun _ h => List.mem_cons_of_mem _ (List.mem_append_right _ h)
set_option maxRecDepth 20000 in
theorem gfX8_fill_s0_0 : GoodIn vfX8_fill_s0 (wsV RX8 31 RX8 yX8_keepRow vfX8_keepRow) := goodIn_app (goodIn_r [.methodLink RX8 31 yX8_keepRow, .instanceMethod yX8_keepRow, .selects RX8 yX8_keepRow yX8_keepRow, .initialized RX8] [2, 3, 4, 5] (by decide +kernel) (by decide +kernel)) (goodIn_ca (goodIn_r (.code yX8_keepRow cX8_keepRow 1 none :: [.fieldLink RX8 18 "HookPier$Seats" "found" "I", .fieldLink RX8 9 "HookPier$Seats" "row" "[I", .fieldLink RX8 15 "HookPier$Seats" "first" "[I", .methodLink RX8 41 arraycopyName, .native arraycopyName, .static arraycopyName, .initialized "java/lang/System"]) [6, 7, 8, 9, 10, 11, 12, 13] (by decide +kernel) (by decide +kernel) : GoodIn vfX8_fill_s0 (.code yX8_keepRow cX8_keepRow 1 none :: [.fieldLink RX8 18 "HookPier$Seats" "found" "I", .fieldLink RX8 9 "HookPier$Seats" "row" "[I", .fieldLink RX8 15 "HookPier$Seats" "first" "[I", .methodLink RX8 41 arraycopyName, .native arraycopyName, .static arraycopyName, .initialized "java/lang/System"])) (goodIn_sub ifX8_fill_s0_X8 (by decide +kernel)))
set_option maxRecDepth 20000 in
theorem gfX8_fill_s0_1 : GoodIn vfX8_fill_s0 (wsV RX8 37 RX8 yX8_isFree vfX8_isFree) := goodIn_app (goodIn_r [.methodLink RX8 37 yX8_isFree, .instanceMethod yX8_isFree, .selects RX8 yX8_isFree yX8_isFree, .initialized RX8] [15, 16, 17, 5] (by decide +kernel) (by decide +kernel)) (goodIn_ca (goodIn_ca (goodIn_r (.code yX8_isFree cX8_isFree 5 (some .boolean) :: [.fieldLink RX8 9 "HookPier$Seats" "row" "[I", .methodLink RX8 47 yX6_isTangle, .instanceMethod yX6_isTangle, .selects RX6 yX6_isTangle yX6_isTangle, .initialized RX6, .code yX6_isTangle cX6_isTangle 5 (some .boolean), .methodLink RX6 89 Lib.Math.abs.name, .static Lib.Math.abs.name, .initialized "java/lang/Math", .code Lib.Math.abs.name Lib.Math.abs.code 1 (some .int), .fieldLink RX6 39 "HookPier$Plan" "reach" "[I"]) [18, 8, 19, 20, 21, 22, 23, 24, 25, 26, 27, 28] (by decide +kernel) (by decide +kernel) : GoodIn vfX8_fill_s0 (.code yX8_isFree cX8_isFree 5 (some .boolean) :: [.fieldLink RX8 9 "HookPier$Seats" "row" "[I", .methodLink RX8 47 yX6_isTangle, .instanceMethod yX6_isTangle, .selects RX6 yX6_isTangle yX6_isTangle, .initialized RX6, .code yX6_isTangle cX6_isTangle 5 (some .boolean), .methodLink RX6 89 Lib.Math.abs.name, .static Lib.Math.abs.name, .initialized "java/lang/Math", .code Lib.Math.abs.name Lib.Math.abs.code 1 (some .int), .fieldLink RX6 39 "HookPier$Plan" "reach" "[I"])) (goodIn_sub ifX8_fill_s0_X8 (by decide +kernel))) (goodIn_sub ifX8_fill_s0_X6 (by decide +kernel)))
set_option maxRecDepth 20000 in
theorem gfX8_fill_s0_2 : GoodIn vfX8_fill_s0 (wsV RX8 22 RX8 yX8_fill vfX8_fill_s1) := goodIn_app (goodIn_r [.methodLink RX8 22 yX8_fill, .instanceMethod yX8_fill, .selects RX8 yX8_fill yX8_fill, .initialized RX8] [29, 30, 31, 5] (by decide +kernel) (by decide +kernel)) (goodIn_ca (goodIn_ca (goodIn_r (.code yX8_fill cX8_fill 6 none :: [.fieldLink RX8 26 "HookPier$Plan" "askers" "I", .methodLink RX8 31 yX8_keepRow, .instanceMethod yX8_keepRow, .selects RX8 yX8_keepRow yX8_keepRow, .initialized RX8, .code yX8_keepRow cX8_keepRow 1 none, .fieldLink RX8 18 "HookPier$Seats" "found" "I", .fieldLink RX8 9 "HookPier$Seats" "row" "[I", .fieldLink RX8 15 "HookPier$Seats" "first" "[I", .methodLink RX8 41 arraycopyName, .native arraycopyName, .static arraycopyName, .initialized "java/lang/System", .fieldLink RX8 34 "HookPier$Plan" "spots" "I", .methodLink RX8 37 yX8_isFree, .instanceMethod yX8_isFree, .selects RX8 yX8_isFree yX8_isFree, .code yX8_isFree cX8_isFree 5 (some .boolean), .methodLink RX8 47 yX6_isTangle, .instanceMethod yX6_isTangle, .selects RX6 yX6_isTangle yX6_isTangle, .initialized RX6, .code yX6_isTangle cX6_isTangle 5 (some .boolean), .methodLink RX6 89 Lib.Math.abs.name, .static Lib.Math.abs.name, .initialized "java/lang/Math", .code Lib.Math.abs.name Lib.Math.abs.code 1 (some .int), .fieldLink RX6 39 "HookPier$Plan" "reach" "[I", .methodLink RX8 22 yX8_fill, .instanceMethod yX8_fill, .selects RX8 yX8_fill yX8_fill, .code yX8_fill cX8_fill 6 none]) [0, 1, 2, 3, 4, 5, 6, 7, 8, 9, 10, 11, 12, 13, 14, 15, 16, 17, 18, 19, 20, 21, 22, 23, 24, 25, 26, 27, 28, 29, 30, 31, 0] (by decide +kernel) (by decide +kernel) : GoodIn vfX8_fill_s0 (.code yX8_fill cX8_fill 6 none :: [.fieldLink RX8 26 "HookPier$Plan" "askers" "I", .methodLink RX8 31 yX8_keepRow, .instanceMethod yX8_keepRow, .selects RX8 yX8_keepRow yX8_keepRow, .initialized RX8, .code yX8_keepRow cX8_keepRow 1 none, .fieldLink RX8 18 "HookPier$Seats" "found" "I", .fieldLink RX8 9 "HookPier$Seats" "row" "[I", .fieldLink RX8 15 "HookPier$Seats" "first" "[I", .methodLink RX8 41 arraycopyName, .native arraycopyName, .static arraycopyName, .initialized "java/lang/System", .fieldLink RX8 34 "HookPier$Plan" "spots" "I", .methodLink RX8 37 yX8_isFree, .instanceMethod yX8_isFree, .selects RX8 yX8_isFree yX8_isFree, .code yX8_isFree cX8_isFree 5 (some .boolean), .methodLink RX8 47 yX6_isTangle, .instanceMethod yX6_isTangle, .selects RX6 yX6_isTangle yX6_isTangle, .initialized RX6, .code yX6_isTangle cX6_isTangle 5 (some .boolean), .methodLink RX6 89 Lib.Math.abs.name, .static Lib.Math.abs.name, .initialized "java/lang/Math", .code Lib.Math.abs.name Lib.Math.abs.code 1 (some .int), .fieldLink RX6 39 "HookPier$Plan" "reach" "[I", .methodLink RX8 22 yX8_fill, .instanceMethod yX8_fill, .selects RX8 yX8_fill yX8_fill, .code yX8_fill cX8_fill 6 none])) (goodIn_sub ifX8_fill_s0_X6 (by decide +kernel))) (goodIn_sub ifX8_fill_s0_X8 (by decide +kernel)))
set_option maxHeartbeats 2000000 in
set_option maxRecDepth 100000 in
theorem kfX8_fill_s0 (l : Launch) (dC : Nat → ClassId) (dI : Nat → Nat → Nat) (a0 : Nat) (a1 : Nat) (k3 : Int32) (k4 : Int32) (us : Nat → Nat) (ks : Nat → ClassId) (up : Nat → Nat) (kp : Nat → ClassId) (s_s : TX8_s) (p_p : TX6_p) (sz : Nat) (out : TX8_s) (h : f_X8_fill_s0 k3 k4 s_s p_p = some out) : Met l yX8_fill vfX8_fill_s0 ({ frames := 7, cells := 0, slots := 0, locals := 185 }) (PC (dC, dI) [.ref a0, .ref a1, .int 0, .int k3, .int k4] sz (bX8 a0 us ks s_s (bX6 a1 up kp p_p [])) (tX8 ks (tX6 kp ([])))) (va_Qv (S := Unit) (fun _ => True) (fun _ t => BC (dC, dI) (va_A (bX8 a0 us ks s_s (bX6 a1 up kp p_p [])) sz) (bX8 a0 us ks out (bX6 a1 up kp p_p [])) [] t) (va_A (bX8 a0 us ks s_s (bX6 a1 up kp p_p [])) sz)) 0 0 (va_A (bX8 a0 us ks s_s (bX6 a1 up kp p_p [])) sz) := by
  refine Met.ofW (cc := cX8_fill) (maxL := 6) (ret := none) (by decide) rfl ?_
  intro p e s m args below meth c s₁ B0 hml hv
  obtain ⟨rfl, hsz, hP, hK, hD0, hN⟩ := hv
  have hx := B0.exec
  have hb := B0.bytes
  have hr := B0.returns
  have hts := atoms_spec (ws := vfX8_fill_s0) B0.pre
  have hown : s.vm.findClass RX8 = some m.cls := findClass_of_methodNamed B0.named
  have hlocks := B0.notSynchronized
  subst hsz
  have hD := hD0.self (sz := s.heap.size)
  generalize hAe : va_A (bX8 a0 us ks s_s (bX6 a1 up kp p_p [])) s.heap.size = A at hD ⊢
  have hA : ∀ q : Nat, s.heap.size ≤ q → A q := fun q h => by rw [← hAe]; exact Or.inr h
  have hS : va_S A s.heap s.heap [] := va_S.rf
  have hP : va_P (dC, dI) vwCl (bX8 a0 us ks s_s (bX6 a1 up kp p_p [])) s.heap := hP
  have hl := lv_entry ([.ref a0, .ref a1, .int 0, .int k3, .int k4]) (n := 6) (Nat.le_of_ble_eq_true rfl)
  rw [lg_entry_eq]
  generalize (lg_sl ([.ref a0, .ref a1, .int 0, .int k3, .int k4]) ++ List.replicate (6 - (lg_sl ([.ref a0, .ref a1, .int 0, .int k3, .int k4])).length) Slot.unset).toArray = ls at hl ⊢
  have hl : lv_has ls 6 [(0, .ref a0), (1, .ref a1), (2, .int 0), (3, .int k3), (4, .int k4)] := hl
  refine W_q (fun QQ hQQ => ?_)
  rw [f_X8_fill_s0] at h
  refine lv_iload_n hx hb dX8_fill_0 rfl (lv_at hl 2 rfl) ?_
  refine lv_aload_n hx hb dX8_fill_1 rfl (lv_at hl 1 rfl) ?_
  refine va_get (D := (dC, dI)) (ci := 4) (v := .int p_p.2.2.2.2.2.1) (C := RX6) (T := TX6) (N := 18) hx hb hts ifX8_fill_s0_X6 hown hK hP 3 rfl rfl 5 (by decide) (hts (.fieldLink RX8 26 "HookPier$Plan" "askers" "I") (List.mem_of_getElem? (i := 1) rfl)) (fun _ h9 => h9) rfl dX8_fill_2 ?_
  refine lv_icmp_ge (tgt := 17) hx hb dX8_fill_5 (by decide) (fun c5 => ?_) (fun c5 => ?_)
  · have h := (if_pos c5).symm.trans h
    refine lv_aload_n hx hb dX8_fill_17 rfl (lv_at hl 0 rfl) ?_
    obtain ⟨o18, eo18⟩ : ∃ o, o = f_X8_keepRow s_s := ⟨_, rfl⟩
    have h := nm_of h o18 eo18
    refine cl_v (wc := (bX8 a0 us ks s_s [])) (wr := (bX6 a1 up kp p_p [])) (va_runV (As := []) (rest := []) ⟨hx, hb, hml, hown, hts⟩ (kfX8_keepRow l dC dI a0 us ks s_s s.heap.size o18 eo18.symm) (cwV 0 hts gfX8_fill_s0_0 rfl rfl rfl (by decide +kernel) ⟨(Nat.le_of_ble_eq_true rfl), (Nat.le_of_ble_eq_true rfl)⟩) (PV (hP.sub (ws' := (bX8 a0 us ks s_s [])) [0, 1, 2] rfl) (hK.sub (tys' := (tX8 ks ([]))) [0, 1] rfl) (hD.sub (ws' := (bX8 a0 us ks s_s [])) [0, 1, 2] (by decide) rfl) hN 0 rfl rfl) rfl rfl hl.1 rfl (lv_room (Nat.le_of_ble_eq_true rfl)) dX8_fill_18 ⟨(Nat.le_of_ble_eq_true rfl), (Nat.le_of_ble_eq_true rfl)⟩) hP hD hK hS hA [0, 1, 2] [3, 4, 5, 6, 7, 8, 9, 10, 11, 12] rfl rfl (by decide) (by decide) (fun _ H locs hw hP hD _ hS => ?_)
    have hP : va_P (dC, dI) vwCl (bX6 a1 up kp p_p (bX8 a0 us ks o18 [])) H := hP
    have hD : va_D A (bX6 a1 up kp p_p (bX8 a0 us ks o18 [])) := hD
    obtain rfl := Option.some.inj h
    have hP9 := hP.sub (ws' := (bX8 a0 us ks o18 (bX6 a1 up kp p_p []))) [10, 11, 12, 0, 1, 2, 3, 4, 5, 6, 7, 8, 9] rfl
    have hD9 := hD.sub (ws' := (bX8 a0 us ks o18 (bX6 a1 up kp p_p []))) [10, 11, 12, 0, 1, 2, 3, 4, 5, 6, 7, 8, 9] (by decide) rfl
    have hK9 := hK.sub (tys' := []) [] rfl
    rw [hQQ]
    exact W.vret hx hb hr (fun t ht hW => ⟨⟨(), rfl, trivial, by rw [ht]; exact hP9, va_K.moved hW.alike hK9, hD9⟩, hS.F ht⟩) hS.2.2 dX8_fill_21
  · have h := (if_neg c5).symm.trans h
    refine lv_iload_n hx hb dX8_fill_8 rfl (lv_at hl 2 rfl) ?_
    refine lv_aload_n hx hb dX8_fill_9 rfl (lv_at hl 0 rfl) ?_
    refine va_get (D := (dC, dI)) (ci := 6) (v := .ref (us 0)) (C := RX8) (T := TX8) (N := 3) hx hb hts ifX8_fill_s0_X8 hown hK hP 0 rfl rfl 0 (by decide) (hts (.fieldLink RX8 9 "HookPier$Seats" "row" "[I") (List.mem_of_getElem? (i := 8) rfl)) (fun _ h9 => h9) rfl dX8_fill_10 ?_
    refine va_alen (v := 5) hx hb hK hP 1 0 rfl rfl rfl dX8_fill_13 ?_
    refine lv_icmp_lt (tgt := 22) hx hb dX8_fill_14 (by decide) (fun _ => ?_) (fun c14 => absurd c14 (by decide))
    refine lv_iload_n hx hb dX8_fill_22 rfl (lv_at hl 3 rfl) ?_
    refine lv_iload_n hx hb dX8_fill_23 rfl (lv_at hl 2 rfl) ?_
    refine lv_ishr hx hb dX8_fill_24 ?_
    refine lv_iconst (v := 1) hx hb dX8_fill_25 (by decide) ?_
    refine lv_iand hx hb dX8_fill_26 ?_
    refine lv_if_ne (tgt := 49) hx hb dX8_fill_27 (by decide) (fun c27 => ?_) (fun c27 => ?_)
    · have h := (if_neg c27).symm.trans h
      refine lv_iconst (v := 0) hx hb dX8_fill_49 (by decide) ?_
      refine lv_istore (lv' := [(5, .int 0), (0, .ref a0), (1, .ref a1), (2, .int 0), (3, .int k3), (4, .int k4)]) hx hb dX8_fill_50 hl (by decide) rfl (fun ls hl => ?_)
      have L52 : ∀ (n52 : Nat) (v52_l5 : Int32) (v52_s_s : TX8_s) (H : Heap) (locs : List Loc) (ls : Array Slot), f_X8_fill_s0_L52 k3 k4 p_p n52 v52_l5 v52_s_s = some out → va_P (dC, dI) vwCl (bX8 a0 us ks v52_s_s (bX6 a1 up kp p_p [])) H → va_D A (bX8 a0 us ks v52_s_s (bX6 a1 up kp p_p [])) → va_S A s.heap H locs → lv_has ls 6 [(5, .int v52_l5), (0, .ref a0), (1, .ref a1), (2, .int 0), (3, .int k3), (4, .int k4)] → W p l e (headSpec vfX8_fill_s0 { frames := 7, cells := 0, slots := 0, locals := 185 }).room s m ([.ref a0, .ref a1, .int 0, .int k3, .int k4]).toArray below meth c H locs 0 0 QQ (F0 m 52 ls []) := by
        intro n52
        induction n52 with
        | zero =>
          intro v52_l5 v52_s_s H locs ls h  _ _ _ _
          rw [f_X8_fill_s0_L52] at h
          cases h
        | succ n52 ih52 =>
          intro v52_l5 v52_s_s H locs ls h  hP hD hS hl
          rw [f_X8_fill_s0_L52] at h
          refine lv_iload hx hb dX8_fill_52 (lv_at hl 0 rfl) ?_
          refine lv_aload_n hx hb dX8_fill_54 rfl (lv_at hl 2 rfl) ?_
          refine va_get (D := (dC, dI)) (ci := 4) (v := .int p_p.1) (C := RX6) (T := TX6) (N := 18) hx hb hts ifX8_fill_s0_X6 hown hK hP 3 rfl rfl 0 (by decide) (hts (.fieldLink RX8 34 "HookPier$Plan" "spots" "I") (List.mem_of_getElem? (i := 14) rfl)) (fun _ h9 => h9) rfl dX8_fill_55 ?_
          refine lv_icmp_ge (tgt := 106) hx hb dX8_fill_58 (by decide) (fun c58 => ?_) (fun c58 => ?_)
          · have h := (if_pos c58).symm.trans h
            obtain rfl := Option.some.inj h
            have hP9 := hP.sub (ws' := (bX8 a0 us ks v52_s_s (bX6 a1 up kp p_p []))) [0, 1, 2, 3, 4, 5, 6, 7, 8, 9, 10, 11, 12] rfl
            have hD9 := hD.sub (ws' := (bX8 a0 us ks v52_s_s (bX6 a1 up kp p_p []))) [0, 1, 2, 3, 4, 5, 6, 7, 8, 9, 10, 11, 12] (by decide) rfl
            have hK9 := hK.sub (tys' := []) [] rfl
            rw [hQQ]
            exact W.vret hx hb hr (fun t ht hW => ⟨⟨(), rfl, trivial, by rw [ht]; exact hP9, va_K.moved hW.alike hK9, hD9⟩, hS.F ht⟩) hS.2.2 dX8_fill_106
          · have h := (if_neg c58).symm.trans h
            refine lv_aload_n hx hb dX8_fill_61 rfl (lv_at hl 1 rfl) ?_
            refine va_get (D := (dC, dI)) (ci := 6) (v := .int v52_s_s.2.2) (C := RX8) (T := TX8) (N := 3) hx hb hts ifX8_fill_s0_X8 hown hK hP 0 rfl rfl 2 (by decide) (hts (.fieldLink RX8 18 "HookPier$Seats" "found" "I") (List.mem_of_getElem? (i := 7) rfl)) (fun _ h9 => h9) rfl dX8_fill_62 ?_
            refine lv_iload hx hb dX8_fill_65 (lv_at hl 5 rfl) ?_
            refine lv_icmp_ge (tgt := 106) hx hb dX8_fill_67 (by decide) (fun c67 => ?_) (fun c67 => ?_)
            · have h := (if_pos c67).symm.trans h
              obtain rfl := Option.some.inj h
              have hP9 := hP.sub (ws' := (bX8 a0 us ks v52_s_s (bX6 a1 up kp p_p []))) [0, 1, 2, 3, 4, 5, 6, 7, 8, 9, 10, 11, 12] rfl
              have hD9 := hD.sub (ws' := (bX8 a0 us ks v52_s_s (bX6 a1 up kp p_p []))) [0, 1, 2, 3, 4, 5, 6, 7, 8, 9, 10, 11, 12] (by decide) rfl
              have hK9 := hK.sub (tys' := []) [] rfl
              rw [hQQ]
              exact W.vret hx hb hr (fun t ht hW => ⟨⟨(), rfl, trivial, by rw [ht]; exact hP9, va_K.moved hW.alike hK9, hD9⟩, hS.F ht⟩) hS.2.2 dX8_fill_106
            · have h := (if_neg c67).symm.trans h
              refine lv_aload_n hx hb dX8_fill_70 rfl (lv_at hl 1 rfl) ?_
              refine lv_aload_n hx hb dX8_fill_71 rfl (lv_at hl 2 rfl) ?_
              refine lv_iload_n hx hb dX8_fill_72 rfl (lv_at hl 3 rfl) ?_
              refine lv_iload hx hb dX8_fill_73 (lv_at hl 0 rfl) ?_
              obtain ⟨o75, eo75, h⟩ := bd_of h
              refine cl_i (wc := (bX8 a0 us ks v52_s_s (bX6 a1 up kp p_p []))) (wr := []) (va_runV (As := [.ref a1, .int 0, .int v52_l5]) (rest := []) ⟨hx, hb, hml, hown, hts⟩ (kfX8_isFree l dC dI a0 a1 (0 : Int32) v52_l5 us ks up kp v52_s_s p_p H.size o75 eo75) (cwV 3 hts gfX8_fill_s0_1 rfl rfl rfl (by decide +kernel) ⟨(Nat.le_of_ble_eq_true rfl), (Nat.le_of_ble_eq_true rfl)⟩) (PV (hP.sub (ws' := (bX8 a0 us ks v52_s_s (bX6 a1 up kp p_p []))) [0, 1, 2, 3, 4, 5, 6, 7, 8, 9, 10, 11, 12] rfl) (hK.sub (tys' := (tX8 ks (tX6 kp ([])))) [0, 1, 2, 3, 4, 5, 6, 7, 8, 9, 10] rfl) (hD.sub (ws' := (bX8 a0 us ks v52_s_s (bX6 a1 up kp p_p []))) [0, 1, 2, 3, 4, 5, 6, 7, 8, 9, 10, 11, 12] (by decide) rfl) hN 0 rfl rfl) rfl rfl hl.1 rfl (lv_room (Nat.le_of_ble_eq_true rfl)) dX8_fill_75 ⟨(Nat.le_of_ble_eq_true rfl), (Nat.le_of_ble_eq_true rfl)⟩) hP hD hK hS hA [0, 1, 2, 3, 4, 5, 6, 7, 8, 9, 10, 11, 12] [] rfl rfl (by decide) (by decide) (fun r75 _ H locs hw hP hD _ hS => ?_)
              obtain ⟨hw, br75⟩ := hw
              obtain rfl := hw.symm
              have hP : va_P (dC, dI) vwCl (bX8 a0 us ks v52_s_s (bX6 a1 up kp p_p [])) H := hP
              have hD : va_D A (bX8 a0 us ks v52_s_s (bX6 a1 up kp p_p [])) := hD
              have J100 : ∀ (v100_s_s : TX8_s) (H : Heap) (locs : List Loc) (ls : Array Slot), f_X8_fill_s0_J100 (f_X8_fill_s0_L52 k3 k4 p_p n52) v52_l5 v100_s_s = some out → va_P (dC, dI) vwCl (bX8 a0 us ks v100_s_s (bX6 a1 up kp p_p [])) H → va_D A (bX8 a0 us ks v100_s_s (bX6 a1 up kp p_p [])) → va_S A s.heap H locs → lv_has ls 6 [(5, .int v52_l5), (0, .ref a0), (1, .ref a1), (2, .int 0), (3, .int k3), (4, .int k4)] → W p l e (headSpec vfX8_fill_s0 { frames := 7, cells := 0, slots := 0, locals := 185 }).room s m ([.ref a0, .ref a1, .int 0, .int k3, .int k4]).toArray below meth c H locs 0 0 QQ (F0 m 100 ls []) := by
                intro v100_s_s H locs ls h  hP hD hS hl
                rw [f_X8_fill_s0_J100] at h
                refine lv_iinc (v := (v52_l5 + (1 : Int32))) (lv' := [(5, .int (v52_l5 + (1 : Int32))), (0, .ref a0), (1, .ref a1), (2, .int 0), (3, .int k3), (4, .int k4)]) hx hb dX8_fill_100 hl (k := 0) rfl rfl (by decide) rfl (fun ls hl => ?_)
                refine lv_goto (tgt := 52) hx hb dX8_fill_103 (by decide) ?_
                exact ih52 (v52_l5 + (1 : Int32)) v100_s_s H _ ls h  hP hD hS (lv_sub hl [0, 1, 2, 3, 4, 5] rfl)
              refine lv_if_eq (tgt := 100) hx hb dX8_fill_78 (by decide) (fun c78 => ?_) (fun c78 => ?_)
              · have h := (if_pos c78).symm.trans h
                exact J100 v52_s_s H _ ls h  hP hD hS (lv_sub hl [0, 1, 2, 3, 4, 5] rfl)
              · have h := (if_neg c78).symm.trans h
                refine lv_aload_n hx hb dX8_fill_81 rfl (lv_at hl 1 rfl) ?_
                refine va_get (D := (dC, dI)) (ci := 6) (v := .ref (us 0)) (C := RX8) (T := TX8) (N := 3) hx hb hts ifX8_fill_s0_X8 hown hK hP 0 rfl rfl 0 (by decide) (hts (.fieldLink RX8 9 "HookPier$Seats" "row" "[I") (List.mem_of_getElem? (i := 8) rfl)) (fun _ h9 => h9) rfl dX8_fill_82 ?_
                refine lv_iload_n hx hb dX8_fill_85 rfl (lv_at hl 3 rfl) ?_
                refine lv_iload hx hb dX8_fill_86 (lv_at hl 0 rfl) ?_
                refine va_iast hx hb hK hP hD hS 1 0 rfl rfl (by unfold vp_in; decide) dX8_fill_88 (fun H locs hP hD hS => ?_)
                have hP : va_P (dC, dI) vwCl (bX8 a0 us ks ((upd v52_s_s.1 ((0 : Int32)).toNatClampNeg v52_l5), v52_s_s.2) (bX6 a1 up kp p_p [])) H := hP
                have hD : va_D A (bX8 a0 us ks ((upd v52_s_s.1 ((0 : Int32)).toNatClampNeg v52_l5), v52_s_s.2) (bX6 a1 up kp p_p [])) := hD
                refine lv_aload_n hx hb dX8_fill_89 rfl (lv_at hl 1 rfl) ?_
                refine lv_aload_n hx hb dX8_fill_90 rfl (lv_at hl 2 rfl) ?_
                refine lv_iload_n hx hb dX8_fill_91 rfl (lv_at hl 3 rfl) ?_
                refine lv_iconst (v := 1) hx hb dX8_fill_92 (by decide) ?_
                refine lv_iadd hx hb dX8_fill_93 ?_
                refine lv_topi (fun z93 e93 => ?_)
                obtain rfl : z93 = 1 := e93.trans (by decide)
                refine lv_iload_n hx hb dX8_fill_94 rfl (lv_at hl 4 rfl) ?_
                refine lv_iload hx hb dX8_fill_95 (lv_at hl 5 rfl) ?_
                obtain ⟨o97, eo97, h⟩ := bd_of h
                refine cl_v (wc := (bX8 a0 us ks ((upd v52_s_s.1 ((0 : Int32)).toNatClampNeg v52_l5), v52_s_s.2) (bX6 a1 up kp p_p []))) (wr := []) (va_runV (As := [.ref a1, .int 1, .int k3, .int k4]) (rest := []) ⟨hx, hb, hml, hown, hts⟩ (kfX8_fill_s1 l dC dI a0 a1 k3 k4 us ks up kp ((upd v52_s_s.1 ((0 : Int32)).toNatClampNeg v52_l5), v52_s_s.2) p_p H.size o97 eo97) (cwV 4 hts gfX8_fill_s0_2 rfl rfl rfl (by decide +kernel) ⟨(Nat.le_of_ble_eq_true rfl), (Nat.le_of_ble_eq_true rfl)⟩) (PV (hP.sub (ws' := (bX8 a0 us ks ((upd v52_s_s.1 ((0 : Int32)).toNatClampNeg v52_l5), v52_s_s.2) (bX6 a1 up kp p_p []))) [0, 1, 2, 3, 4, 5, 6, 7, 8, 9, 10, 11, 12] rfl) (hK.sub (tys' := (tX8 ks (tX6 kp ([])))) [0, 1, 2, 3, 4, 5, 6, 7, 8, 9, 10] rfl) (hD.sub (ws' := (bX8 a0 us ks ((upd v52_s_s.1 ((0 : Int32)).toNatClampNeg v52_l5), v52_s_s.2) (bX6 a1 up kp p_p []))) [0, 1, 2, 3, 4, 5, 6, 7, 8, 9, 10, 11, 12] (by decide) rfl) hN 0 rfl rfl) rfl rfl hl.1 rfl (lv_room (Nat.le_of_ble_eq_true rfl)) dX8_fill_97 ⟨(Nat.le_of_ble_eq_true rfl), (Nat.le_of_ble_eq_true rfl)⟩) hP hD hK hS hA [0, 1, 2, 3, 4, 5, 6, 7, 8, 9, 10, 11, 12] [] rfl rfl (by decide) (by decide) (fun _ H locs hw hP hD _ hS => ?_)
                have hP : va_P (dC, dI) vwCl (bX8 a0 us ks o97 (bX6 a1 up kp p_p [])) H := hP
                have hD : va_D A (bX8 a0 us ks o97 (bX6 a1 up kp p_p [])) := hD
                exact J100 o97 H _ ls h  hP hD hS (lv_sub hl [0, 1, 2, 3, 4, 5] rfl)
      exact L52 FU (0 : Int32) s_s s.heap _ ls h  hP hD hS (lv_sub hl [0, 1, 2, 3, 4, 5] rfl)
    · have h := (if_pos c27).symm.trans h
      refine lv_aload_n hx hb dX8_fill_30 rfl (lv_at hl 0 rfl) ?_
      refine va_get (D := (dC, dI)) (ci := 6) (v := .ref (us 0)) (C := RX8) (T := TX8) (N := 3) hx hb hts ifX8_fill_s0_X8 hown hK hP 0 rfl rfl 0 (by decide) (hts (.fieldLink RX8 9 "HookPier$Seats" "row" "[I") (List.mem_of_getElem? (i := 8) rfl)) (fun _ h9 => h9) rfl dX8_fill_31 ?_
      refine lv_iload_n hx hb dX8_fill_34 rfl (lv_at hl 2 rfl) ?_
      refine lv_iconst (v := (-1)) hx hb dX8_fill_35 (by decide) ?_
      refine va_iast hx hb hK hP hD hS 1 0 rfl rfl (by unfold vp_in; decide) dX8_fill_36 (fun H locs hP hD hS => ?_)
      have hP : va_P (dC, dI) vwCl (bX8 a0 us ks ((upd s_s.1 ((0 : Int32)).toNatClampNeg (-1 : Int32)), s_s.2) (bX6 a1 up kp p_p [])) H := hP
      have hD : va_D A (bX8 a0 us ks ((upd s_s.1 ((0 : Int32)).toNatClampNeg (-1 : Int32)), s_s.2) (bX6 a1 up kp p_p [])) := hD
      refine lv_aload_n hx hb dX8_fill_37 rfl (lv_at hl 0 rfl) ?_
      refine lv_aload_n hx hb dX8_fill_38 rfl (lv_at hl 1 rfl) ?_
      refine lv_iload_n hx hb dX8_fill_39 rfl (lv_at hl 2 rfl) ?_
      refine lv_iconst (v := 1) hx hb dX8_fill_40 (by decide) ?_
      refine lv_iadd hx hb dX8_fill_41 ?_
      refine lv_topi (fun z41 e41 => ?_)
      obtain rfl : z41 = 1 := e41.trans (by decide)
      refine lv_iload_n hx hb dX8_fill_42 rfl (lv_at hl 3 rfl) ?_
      refine lv_iload hx hb dX8_fill_43 (lv_at hl 4 rfl) ?_
      obtain ⟨o45, eo45, h⟩ := bd_of h
      refine cl_v (wc := (bX8 a0 us ks ((upd s_s.1 ((0 : Int32)).toNatClampNeg (-1 : Int32)), s_s.2) (bX6 a1 up kp p_p []))) (wr := []) (va_runV (As := [.ref a1, .int 1, .int k3, .int k4]) (rest := []) ⟨hx, hb, hml, hown, hts⟩ (kfX8_fill_s1 l dC dI a0 a1 k3 k4 us ks up kp ((upd s_s.1 ((0 : Int32)).toNatClampNeg (-1 : Int32)), s_s.2) p_p H.size o45 eo45) (cwV 4 hts gfX8_fill_s0_2 rfl rfl rfl (by decide +kernel) ⟨(Nat.le_of_ble_eq_true rfl), (Nat.le_of_ble_eq_true rfl)⟩) (PV (hP.sub (ws' := (bX8 a0 us ks ((upd s_s.1 ((0 : Int32)).toNatClampNeg (-1 : Int32)), s_s.2) (bX6 a1 up kp p_p []))) [0, 1, 2, 3, 4, 5, 6, 7, 8, 9, 10, 11, 12] rfl) (hK.sub (tys' := (tX8 ks (tX6 kp ([])))) [0, 1, 2, 3, 4, 5, 6, 7, 8, 9, 10] rfl) (hD.sub (ws' := (bX8 a0 us ks ((upd s_s.1 ((0 : Int32)).toNatClampNeg (-1 : Int32)), s_s.2) (bX6 a1 up kp p_p []))) [0, 1, 2, 3, 4, 5, 6, 7, 8, 9, 10, 11, 12] (by decide) rfl) hN 0 rfl rfl) rfl rfl hl.1 rfl (lv_room (Nat.le_of_ble_eq_true rfl)) dX8_fill_45 ⟨(Nat.le_of_ble_eq_true rfl), (Nat.le_of_ble_eq_true rfl)⟩) hP hD hK hS hA [0, 1, 2, 3, 4, 5, 6, 7, 8, 9, 10, 11, 12] [] rfl rfl (by decide) (by decide) (fun _ H locs hw hP hD _ hS => ?_)
      have hP : va_P (dC, dI) vwCl (bX8 a0 us ks o45 (bX6 a1 up kp p_p [])) H := hP
      have hD : va_D A (bX8 a0 us ks o45 (bX6 a1 up kp p_p [])) := hD
      obtain rfl := Option.some.inj h
      have hP9 := hP.sub (ws' := (bX8 a0 us ks o45 (bX6 a1 up kp p_p []))) [0, 1, 2, 3, 4, 5, 6, 7, 8, 9, 10, 11, 12] rfl
      have hD9 := hD.sub (ws' := (bX8 a0 us ks o45 (bX6 a1 up kp p_p []))) [0, 1, 2, 3, 4, 5, 6, 7, 8, 9, 10, 11, 12] (by decide) rfl
      have hK9 := hK.sub (tys' := []) [] rfl
      rw [hQQ]
      exact W.vret hx hb hr (fun t ht hW => ⟨⟨(), rfl, trivial, by rw [ht]; exact hP9, va_K.moved hW.alike hK9, hD9⟩, hS.F ht⟩) hS.2.2 dX8_fill_48
theorem dX8_countRows_0 : decode cX8_countRows 0 = .ok (.aload_n 0, 1) := by decide +kernel
theorem dX8_countRows_1 : decode cX8_countRows 1 = .ok (.iconst 0, 1) := by decide +kernel
theorem dX8_countRows_10 : decode cX8_countRows 10 = .ok (.invokevirtual 22, 3) := by decide +kernel
theorem dX8_countRows_13 : decode cX8_countRows 13 = .ok (.aload_n 0, 1) := by decide +kernel
theorem dX8_countRows_14 : decode cX8_countRows 14 = .ok (.getfield 18, 3) := by decide +kernel
theorem dX8_countRows_17 : decode cX8_countRows 17 = .ok (.ireturn, 1) := by decide +kernel
theorem dX8_countRows_2 : decode cX8_countRows 2 = .ok (.putfield 18, 3) := by decide +kernel
theorem dX8_countRows_5 : decode cX8_countRows 5 = .ok (.aload_n 0, 1) := by decide +kernel
theorem dX8_countRows_6 : decode cX8_countRows 6 = .ok (.aload_n 1, 1) := by decide +kernel
theorem dX8_countRows_7 : decode cX8_countRows 7 = .ok (.iconst 0, 1) := by decide +kernel
theorem dX8_countRows_8 : decode cX8_countRows 8 = .ok (.iload_n 2, 1) := by decide +kernel
theorem dX8_countRows_9 : decode cX8_countRows 9 = .ok (.iload_n 3, 1) := by decide +kernel
def vfX8_countRows : List Cond := .code yX8_countRows cX8_countRows 4 (some .int) :: ([.fieldLink RX8 18 "HookPier$Seats" "found" "I", .methodLink RX8 22 yX8_fill, .instanceMethod yX8_fill, .selects RX8 yX8_fill yX8_fill, .initialized RX8, .code yX8_fill cX8_fill 6 none, .fieldLink RX8 26 "HookPier$Plan" "askers" "I", .methodLink RX8 31 yX8_keepRow, .instanceMethod yX8_keepRow, .selects RX8 yX8_keepRow yX8_keepRow, .code yX8_keepRow cX8_keepRow 1 none, .fieldLink RX8 9 "HookPier$Seats" "row" "[I", .fieldLink RX8 15 "HookPier$Seats" "first" "[I", .methodLink RX8 41 arraycopyName, .native arraycopyName, .static arraycopyName, .initialized "java/lang/System", .fieldLink RX8 34 "HookPier$Plan" "spots" "I", .methodLink RX8 37 yX8_isFree, .instanceMethod yX8_isFree, .selects RX8 yX8_isFree yX8_isFree, .code yX8_isFree cX8_isFree 5 (some .boolean), .methodLink RX8 47 yX6_isTangle, .instanceMethod yX6_isTangle, .selects RX6 yX6_isTangle yX6_isTangle, .initialized RX6, .code yX6_isTangle cX6_isTangle 5 (some .boolean), .methodLink RX6 89 Lib.Math.abs.name, .static Lib.Math.abs.name, .initialized "java/lang/Math", .code Lib.Math.abs.name Lib.Math.abs.code 1 (some .int), .fieldLink RX6 39 "HookPier$Plan" "reach" "[I"] ++ wsX80 ++ wsX60)
theorem ifX8_countRows_X8 : ∀ w ∈ wsX80, w ∈ vfX8_countRows := fun _ h => List.mem_cons_of_mem _ (List.mem_append_left _ (List.mem_append_right _ h))
theorem ifX8_countRows_X6 : ∀ w ∈ wsX60, w ∈ vfX8_countRows := fun _ h => List.mem_cons_of_mem _ (List.mem_append_right _ h)
set_option maxRecDepth 20000 in
theorem gfX8_countRows_0 : GoodIn vfX8_countRows (wsV RX8 22 RX8 yX8_fill vfX8_fill_s0) := goodIn_app (goodIn_r [.methodLink RX8 22 yX8_fill, .instanceMethod yX8_fill, .selects RX8 yX8_fill yX8_fill, .initialized RX8] [2, 3, 4, 5] (by decide +kernel) (by decide +kernel)) (goodIn_ca (goodIn_ca (goodIn_r (.code yX8_fill cX8_fill 6 none :: [.fieldLink RX8 26 "HookPier$Plan" "askers" "I", .methodLink RX8 31 yX8_keepRow, .instanceMethod yX8_keepRow, .selects RX8 yX8_keepRow yX8_keepRow, .initialized RX8, .code yX8_keepRow cX8_keepRow 1 none, .fieldLink RX8 18 "HookPier$Seats" "found" "I", .fieldLink RX8 9 "HookPier$Seats" "row" "[I", .fieldLink RX8 15 "HookPier$Seats" "first" "[I", .methodLink RX8 41 arraycopyName, .native arraycopyName, .static arraycopyName, .initialized "java/lang/System", .fieldLink RX8 34 "HookPier$Plan" "spots" "I", .methodLink RX8 37 yX8_isFree, .instanceMethod yX8_isFree, .selects RX8 yX8_isFree yX8_isFree, .code yX8_isFree cX8_isFree 5 (some .boolean), .methodLink RX8 47 yX6_isTangle, .instanceMethod yX6_isTangle, .selects RX6 yX6_isTangle yX6_isTangle, .initialized RX6, .code yX6_isTangle cX6_isTangle 5 (some .boolean), .methodLink RX6 89 Lib.Math.abs.name, .static Lib.Math.abs.name, .initialized "java/lang/Math", .code Lib.Math.abs.name Lib.Math.abs.code 1 (some .int), .fieldLink RX6 39 "HookPier$Plan" "reach" "[I", .methodLink RX8 22 yX8_fill, .instanceMethod yX8_fill, .selects RX8 yX8_fill yX8_fill, .code yX8_fill cX8_fill 6 none]) [6, 7, 8, 9, 10, 5, 11, 1, 12, 13, 14, 15, 16, 17, 18, 19, 20, 21, 22, 23, 24, 25, 26, 27, 28, 29, 30, 31, 32, 2, 3, 4, 6] (by decide +kernel) (by decide +kernel) : GoodIn vfX8_countRows (.code yX8_fill cX8_fill 6 none :: [.fieldLink RX8 26 "HookPier$Plan" "askers" "I", .methodLink RX8 31 yX8_keepRow, .instanceMethod yX8_keepRow, .selects RX8 yX8_keepRow yX8_keepRow, .initialized RX8, .code yX8_keepRow cX8_keepRow 1 none, .fieldLink RX8 18 "HookPier$Seats" "found" "I", .fieldLink RX8 9 "HookPier$Seats" "row" "[I", .fieldLink RX8 15 "HookPier$Seats" "first" "[I", .methodLink RX8 41 arraycopyName, .native arraycopyName, .static arraycopyName, .initialized "java/lang/System", .fieldLink RX8 34 "HookPier$Plan" "spots" "I", .methodLink RX8 37 yX8_isFree, .instanceMethod yX8_isFree, .selects RX8 yX8_isFree yX8_isFree, .code yX8_isFree cX8_isFree 5 (some .boolean), .methodLink RX8 47 yX6_isTangle, .instanceMethod yX6_isTangle, .selects RX6 yX6_isTangle yX6_isTangle, .initialized RX6, .code yX6_isTangle cX6_isTangle 5 (some .boolean), .methodLink RX6 89 Lib.Math.abs.name, .static Lib.Math.abs.name, .initialized "java/lang/Math", .code Lib.Math.abs.name Lib.Math.abs.code 1 (some .int), .fieldLink RX6 39 "HookPier$Plan" "reach" "[I", .methodLink RX8 22 yX8_fill, .instanceMethod yX8_fill, .selects RX8 yX8_fill yX8_fill, .code yX8_fill cX8_fill 6 none])) (goodIn_sub ifX8_countRows_X6 (by decide +kernel))) (goodIn_sub ifX8_countRows_X8 (by decide +kernel)))
set_option maxHeartbeats 2000000 in
set_option maxRecDepth 100000 in
theorem kfX8_countRows (l : Launch) (dC : Nat → ClassId) (dI : Nat → Nat → Nat) (a0 : Nat) (a1 : Nat) (k2 : Int32) (k3 : Int32) (us : Nat → Nat) (ks : Nat → ClassId) (up : Nat → Nat) (kp : Nat → ClassId) (s_s : TX8_s) (p_p : TX6_p) (sz : Nat) (out : (Int32 × TX8_s)) (h : f_X8_countRows k2 k3 s_s p_p = some out) : Met l yX8_countRows vfX8_countRows ({ frames := 8, cells := 0, slots := 0, locals := 210 }) (PC (dC, dI) [.ref a0, .ref a1, .int k2, .int k3] sz (bX8 a0 us ks s_s (bX6 a1 up kp p_p [])) (tX8 ks (tX6 kp ([])))) (va_Qi (S := Unit) (fun (r : Int32) _ => r = out.1) (fun _ t => BC (dC, dI) (va_A (bX8 a0 us ks s_s (bX6 a1 up kp p_p [])) sz) (bX8 a0 us ks out.2 (bX6 a1 up kp p_p [])) [] t) (va_A (bX8 a0 us ks s_s (bX6 a1 up kp p_p [])) sz)) 0 0 (va_A (bX8 a0 us ks s_s (bX6 a1 up kp p_p [])) sz) := by
  refine Met.ofW (cc := cX8_countRows) (maxL := 4) (ret := (some .int)) (by decide) rfl ?_
  intro p e s m args below meth c s₁ B0 hml hv
  obtain ⟨rfl, hsz, hP, hK, hD0, hN⟩ := hv
  have hx := B0.exec
  have hb := B0.bytes
  have hr := B0.returns
  have hts := atoms_spec (ws := vfX8_countRows) B0.pre
  have hown : s.vm.findClass RX8 = some m.cls := findClass_of_methodNamed B0.named
  have hlocks := B0.notSynchronized
  subst hsz
  have hD := hD0.self (sz := s.heap.size)
  generalize hAe : va_A (bX8 a0 us ks s_s (bX6 a1 up kp p_p [])) s.heap.size = A at hD ⊢
  have hA : ∀ q : Nat, s.heap.size ≤ q → A q := fun q h => by rw [← hAe]; exact Or.inr h
  have hS : va_S A s.heap s.heap [] := va_S.rf
  have hP : va_P (dC, dI) vwCl (bX8 a0 us ks s_s (bX6 a1 up kp p_p [])) s.heap := hP
  have hl := lv_entry ([.ref a0, .ref a1, .int k2, .int k3]) (n := 4) (Nat.le_of_ble_eq_true rfl)
  rw [lg_entry_eq]
  generalize (lg_sl ([.ref a0, .ref a1, .int k2, .int k3]) ++ List.replicate (4 - (lg_sl ([.ref a0, .ref a1, .int k2, .int k3])).length) Slot.unset).toArray = ls at hl ⊢
  have hl : lv_has ls 4 [(0, .ref a0), (1, .ref a1), (2, .int k2), (3, .int k3)] := hl
  refine W_q (fun QQ hQQ => ?_)
  rw [f_X8_countRows] at h
  refine lv_aload_n hx hb dX8_countRows_0 rfl (lv_at hl 0 rfl) ?_
  refine lv_iconst (v := 0) hx hb dX8_countRows_1 (by decide) ?_
  refine va_put (D := (dC, dI)) (ci := 6) (v := .int 0) (ty := .int) (C := RX8) (T := TX8) (N := 3) hx hb hts ifX8_countRows_X8 tyX8 tyX8_ok nmX8 hown hK hP hD hS 0 rfl rfl 2 (by decide) (hts (.fieldLink RX8 18 "HookPier$Seats" "found" "I") (List.mem_of_getElem? (i := 1) rfl)) (fun _ h9 => h9) rfl (by decide +kernel) rfl rfl (Nat.le_of_ble_eq_true rfl) dX8_countRows_2 (fun H locs hP hD hS => ?_)
  have hP : va_P (dC, dI) vwCl (bX8 a0 us ks (s_s.1, s_s.2.1, (0 : Int32)) (bX6 a1 up kp p_p [])) H := hP
  have hD : va_D A (bX8 a0 us ks (s_s.1, s_s.2.1, (0 : Int32)) (bX6 a1 up kp p_p [])) := hD
  refine lv_aload_n hx hb dX8_countRows_5 rfl (lv_at hl 0 rfl) ?_
  refine lv_aload_n hx hb dX8_countRows_6 rfl (lv_at hl 1 rfl) ?_
  refine lv_iconst (v := 0) hx hb dX8_countRows_7 (by decide) ?_
  refine lv_iload_n hx hb dX8_countRows_8 rfl (lv_at hl 2 rfl) ?_
  refine lv_iload_n hx hb dX8_countRows_9 rfl (lv_at hl 3 rfl) ?_
  obtain ⟨o10, eo10, h⟩ := bd_of h
  refine cl_v (wc := (bX8 a0 us ks (s_s.1, s_s.2.1, (0 : Int32)) (bX6 a1 up kp p_p []))) (wr := []) (va_runV (As := [.ref a1, .int 0, .int k2, .int k3]) (rest := []) ⟨hx, hb, hml, hown, hts⟩ (kfX8_fill_s0 l dC dI a0 a1 k2 k3 us ks up kp (s_s.1, s_s.2.1, (0 : Int32)) p_p H.size o10 eo10) (cwV 4 hts gfX8_countRows_0 rfl rfl rfl (by decide +kernel) ⟨(Nat.le_of_ble_eq_true rfl), (Nat.le_of_ble_eq_true rfl)⟩) (PV (hP.sub (ws' := (bX8 a0 us ks (s_s.1, s_s.2.1, (0 : Int32)) (bX6 a1 up kp p_p []))) [0, 1, 2, 3, 4, 5, 6, 7, 8, 9, 10, 11, 12] rfl) (hK.sub (tys' := (tX8 ks (tX6 kp ([])))) [0, 1, 2, 3, 4, 5, 6, 7, 8, 9, 10] rfl) (hD.sub (ws' := (bX8 a0 us ks (s_s.1, s_s.2.1, (0 : Int32)) (bX6 a1 up kp p_p []))) [0, 1, 2, 3, 4, 5, 6, 7, 8, 9, 10, 11, 12] (by decide) rfl) hN 0 rfl rfl) rfl rfl hl.1 rfl (lv_room (Nat.le_of_ble_eq_true rfl)) dX8_countRows_10 ⟨(Nat.le_of_ble_eq_true rfl), (Nat.le_of_ble_eq_true rfl)⟩) hP hD hK hS hA [0, 1, 2, 3, 4, 5, 6, 7, 8, 9, 10, 11, 12] [] rfl rfl (by decide) (by decide) (fun _ H locs hw hP hD _ hS => ?_)
  have hP : va_P (dC, dI) vwCl (bX8 a0 us ks o10 (bX6 a1 up kp p_p [])) H := hP
  have hD : va_D A (bX8 a0 us ks o10 (bX6 a1 up kp p_p [])) := hD
  refine lv_aload_n hx hb dX8_countRows_13 rfl (lv_at hl 0 rfl) ?_
  refine va_get (D := (dC, dI)) (ci := 6) (v := .int o10.2.2) (C := RX8) (T := TX8) (N := 3) hx hb hts ifX8_countRows_X8 hown hK hP 0 rfl rfl 2 (by decide) (hts (.fieldLink RX8 18 "HookPier$Seats" "found" "I") (List.mem_of_getElem? (i := 1) rfl)) (fun _ h9 => h9) rfl dX8_countRows_14 ?_
  obtain rfl := Option.some.inj h
  have hP9 := hP.sub (ws' := (bX8 a0 us ks o10 (bX6 a1 up kp p_p []))) [0, 1, 2, 3, 4, 5, 6, 7, 8, 9, 10, 11, 12] rfl
  have hD9 := hD.sub (ws' := (bX8 a0 us ks o10 (bX6 a1 up kp p_p []))) [0, 1, 2, 3, 4, 5, 6, 7, 8, 9, 10, 11, 12] (by decide) rfl
  have hK9 := hK.sub (tys' := []) [] rfl
  rw [hQQ]
  exact W.iret (v := o10.2.2) hx hb hr (fun t ht hW => ⟨⟨o10.2.2, (), rfl, rfl, by rw [ht]; exact hP9, va_K.moved hW.alike hK9, hD9⟩, hS.F ht⟩) hS.2.2 dX8_countRows_17
theorem dX10_seatings_0 : decode cX10_seatings 0 = .ok (.aload_n 0, 1) := by decide +kernel
theorem dX10_seatings_1 : decode cX10_seatings 1 = .ok (.invokevirtual 216, 3) := by decide +kernel
theorem dX10_seatings_10 : decode cX10_seatings 10 = .ok (.aload_n 0, 1) := by decide +kernel
theorem dX10_seatings_11 : decode cX10_seatings 11 = .ok (.getfield 10, 3) := by decide +kernel
theorem dX10_seatings_14 : decode cX10_seatings 14 = .ok (.getfield 246, 3) := by decide +kernel
theorem dX10_seatings_17 : decode cX10_seatings 17 = .ok (.ifCond .ne 8, 3) := by decide +kernel
theorem dX10_seatings_20 : decode cX10_seatings 20 = .ok (.bipush 6, 2) := by decide +kernel
theorem dX10_seatings_22 : decode cX10_seatings 22 = .ok (.goto 4, 3) := by decide +kernel
theorem dX10_seatings_25 : decode cX10_seatings 25 = .ok (.iload_n 1, 1) := by decide +kernel
theorem dX10_seatings_26 : decode cX10_seatings 26 = .ok (.invokevirtual 79, 3) := by decide +kernel
theorem dX10_seatings_29 : decode cX10_seatings 29 = .ok (.ifCond .eq 5, 3) := by decide +kernel
theorem dX10_seatings_32 : decode cX10_seatings 32 = .ok (.iconst (-1), 1) := by decide +kernel
theorem dX10_seatings_33 : decode cX10_seatings 33 = .ok (.ireturn, 1) := by decide +kernel
theorem dX10_seatings_34 : decode cX10_seatings 34 = .ok (.aload_n 0, 1) := by decide +kernel
theorem dX10_seatings_35 : decode cX10_seatings 35 = .ok (.getfield 43, 3) := by decide +kernel
theorem dX10_seatings_38 : decode cX10_seatings 38 = .ok (.aload_n 0, 1) := by decide +kernel
theorem dX10_seatings_39 : decode cX10_seatings 39 = .ok (.getfield 10, 3) := by decide +kernel
theorem dX10_seatings_4 : decode cX10_seatings 4 = .ok (.istore_n 1, 1) := by decide +kernel
theorem dX10_seatings_42 : decode cX10_seatings 42 = .ok (.aload_n 0, 1) := by decide +kernel
theorem dX10_seatings_43 : decode cX10_seatings 43 = .ok (.invokevirtual 249, 3) := by decide +kernel
theorem dX10_seatings_46 : decode cX10_seatings 46 = .ok (.sipush 6720, 3) := by decide +kernel
theorem dX10_seatings_49 : decode cX10_seatings 49 = .ok (.invokevirtual 252, 3) := by decide +kernel
theorem dX10_seatings_5 : decode cX10_seatings 5 = .ok (.aload_n 0, 1) := by decide +kernel
theorem dX10_seatings_52 : decode cX10_seatings 52 = .ok (.ireturn, 1) := by decide +kernel
theorem dX10_seatings_6 : decode cX10_seatings 6 = .ok (.iload_n 1, 1) := by decide +kernel
theorem dX10_seatings_7 : decode cX10_seatings 7 = .ok (.ifCond .ne 18, 3) := by decide +kernel
def vfX10_seatings : List Cond := .code yX10_seatings cX10_seatings 2 (some .int) :: ([.methodLink RX10 216 yX10_pierTrouble, .instanceMethod yX10_pierTrouble, .selects RX10 yX10_pierTrouble yX10_pierTrouble, .initialized RX10, .code yX10_pierTrouble cX10_pierTrouble 1 (some .int), .fieldLink RX10 10 "HookPier" "plan" "LHookPier$Plan;", .fieldLink RX10 233 "HookPier$Plan" "spots" "I", .methodLink RX10 79 yX10_refused, .instanceMethod yX10_refused, .selects RX10 yX10_refused yX10_refused, .code yX10_refused cX10_refused 2 (some .boolean), .fieldLink RX10 61 "HookPier" "troubleNow" "I", .fieldLink RX10 43 "HookPier" "seats" "LHookPier$Seats;", .methodLink RX10 249 yX10_everyAsker, .instanceMethod yX10_everyAsker, .selects RX10 yX10_everyAsker yX10_everyAsker, .code yX10_everyAsker cX10_everyAsker 1 (some .int), .fieldLink RX10 246 "HookPier$Plan" "askers" "I", .methodLink RX10 252 yX8_countRows, .instanceMethod yX8_countRows, .selects RX8 yX8_countRows yX8_countRows, .initialized RX8, .code yX8_countRows cX8_countRows 4 (some .int), .fieldLink RX8 18 "HookPier$Seats" "found" "I", .methodLink RX8 22 yX8_fill, .instanceMethod yX8_fill, .selects RX8 yX8_fill yX8_fill, .code yX8_fill cX8_fill 6 none, .fieldLink RX8 26 "HookPier$Plan" "askers" "I", .methodLink RX8 31 yX8_keepRow, .instanceMethod yX8_keepRow, .selects RX8 yX8_keepRow yX8_keepRow, .code yX8_keepRow cX8_keepRow 1 none, .fieldLink RX8 9 "HookPier$Seats" "row" "[I", .fieldLink RX8 15 "HookPier$Seats" "first" "[I", .methodLink RX8 41 arraycopyName, .native arraycopyName, .static arraycopyName, .initialized "java/lang/System", .fieldLink RX8 34 "HookPier$Plan" "spots" "I", .methodLink RX8 37 yX8_isFree, .instanceMethod yX8_isFree, .selects RX8 yX8_isFree yX8_isFree, .code yX8_isFree cX8_isFree 5 (some .boolean), .methodLink RX8 47 yX6_isTangle, .instanceMethod yX6_isTangle, .selects RX6 yX6_isTangle yX6_isTangle, .initialized RX6, .code yX6_isTangle cX6_isTangle 5 (some .boolean), .methodLink RX6 89 Lib.Math.abs.name, .static Lib.Math.abs.name, .initialized "java/lang/Math", .code Lib.Math.abs.name Lib.Math.abs.code 1 (some .int), .fieldLink RX6 39 "HookPier$Plan" "reach" "[I"] ++ wsX100 ++ wsX60 ++ wsX80)
theorem ifX10_seatings_X10 : ∀ w ∈ wsX100, w ∈ vfX10_seatings := fun _ h => List.mem_cons_of_mem _ (List.mem_append_left _ (List.mem_append_left _ (List.mem_append_right _ h)))
theorem ifX10_seatings_X6 : ∀ w ∈ wsX60, w ∈ vfX10_seatings := fun _ h => List.mem_cons_of_mem _ (List.mem_append_left _ (List.mem_append_right _ h))
theorem ifX10_seatings_X8 : ∀ w ∈ wsX80, w ∈ vfX10_seatings := fun _ h => List.mem_cons_of_mem _ (List.mem_append_right _ h)
set_option maxRecDepth 20000 in
theorem gfX10_seatings_0 : GoodIn vfX10_seatings (wsV RX10 216 RX10 yX10_pierTrouble vfX10_pierTrouble) := goodIn_app (goodIn_r [.methodLink RX10 216 yX10_pierTrouble, .instanceMethod yX10_pierTrouble, .selects RX10 yX10_pierTrouble yX10_pierTrouble, .initialized RX10] [1, 2, 3, 4] (by decide +kernel) (by decide +kernel)) (goodIn_ca (goodIn_ca (goodIn_r (.code yX10_pierTrouble cX10_pierTrouble 1 (some .int) :: [.fieldLink RX10 10 "HookPier" "plan" "LHookPier$Plan;", .fieldLink RX10 233 "HookPier$Plan" "spots" "I"]) [5, 6, 7] (by decide +kernel) (by decide +kernel) : GoodIn vfX10_seatings (.code yX10_pierTrouble cX10_pierTrouble 1 (some .int) :: [.fieldLink RX10 10 "HookPier" "plan" "LHookPier$Plan;", .fieldLink RX10 233 "HookPier$Plan" "spots" "I"])) (goodIn_sub ifX10_seatings_X10 (by decide +kernel))) (goodIn_sub ifX10_seatings_X6 (by decide +kernel)))
set_option maxRecDepth 20000 in
theorem gfX10_seatings_1 : GoodIn vfX10_seatings (wsV RX10 79 RX10 yX10_refused vfX10_refused) := goodIn_app (goodIn_r [.methodLink RX10 79 yX10_refused, .instanceMethod yX10_refused, .selects RX10 yX10_refused yX10_refused, .initialized RX10] [8, 9, 10, 4] (by decide +kernel) (by decide +kernel)) (goodIn_ca (goodIn_r (.code yX10_refused cX10_refused 2 (some .boolean) :: [.fieldLink RX10 61 "HookPier" "troubleNow" "I"]) [11, 12] (by decide +kernel) (by decide +kernel) : GoodIn vfX10_seatings (.code yX10_refused cX10_refused 2 (some .boolean) :: [.fieldLink RX10 61 "HookPier" "troubleNow" "I"])) (goodIn_sub ifX10_seatings_X10 (by decide +kernel)))
set_option maxRecDepth 20000 in
theorem gfX10_seatings_2 : GoodIn vfX10_seatings (wsV RX10 249 RX10 yX10_everyAsker vfX10_everyAsker) := goodIn_app (goodIn_r [.methodLink RX10 249 yX10_everyAsker, .instanceMethod yX10_everyAsker, .selects RX10 yX10_everyAsker yX10_everyAsker, .initialized RX10] [14, 15, 16, 4] (by decide +kernel) (by decide +kernel)) (goodIn_ca (goodIn_ca (goodIn_r (.code yX10_everyAsker cX10_everyAsker 1 (some .int) :: [.fieldLink RX10 10 "HookPier" "plan" "LHookPier$Plan;", .fieldLink RX10 246 "HookPier$Plan" "askers" "I"]) [17, 6, 18] (by decide +kernel) (by decide +kernel) : GoodIn vfX10_seatings (.code yX10_everyAsker cX10_everyAsker 1 (some .int) :: [.fieldLink RX10 10 "HookPier" "plan" "LHookPier$Plan;", .fieldLink RX10 246 "HookPier$Plan" "askers" "I"])) (goodIn_sub ifX10_seatings_X10 (by decide +kernel))) (goodIn_sub ifX10_seatings_X6 (by decide +kernel)))
set_option maxRecDepth 20000 in
theorem gfX10_seatings_3 : GoodIn vfX10_seatings (wsV RX10 252 RX8 yX8_countRows vfX8_countRows) := goodIn_app (goodIn_r [.methodLink RX10 252 yX8_countRows, .instanceMethod yX8_countRows, .selects RX8 yX8_countRows yX8_countRows, .initialized RX8] [19, 20, 21, 22] (by decide +kernel) (by decide +kernel)) (goodIn_ca (goodIn_ca (goodIn_r (.code yX8_countRows cX8_countRows 4 (some .int) :: [.fieldLink RX8 18 "HookPier$Seats" "found" "I", .methodLink RX8 22 yX8_fill, .instanceMethod yX8_fill, .selects RX8 yX8_fill yX8_fill, .initialized RX8, .code yX8_fill cX8_fill 6 none, .fieldLink RX8 26 "HookPier$Plan" "askers" "I", .methodLink RX8 31 yX8_keepRow, .instanceMethod yX8_keepRow, .selects RX8 yX8_keepRow yX8_keepRow, .code yX8_keepRow cX8_keepRow 1 none, .fieldLink RX8 9 "HookPier$Seats" "row" "[I", .fieldLink RX8 15 "HookPier$Seats" "first" "[I", .methodLink RX8 41 arraycopyName, .native arraycopyName, .static arraycopyName, .initialized "java/lang/System", .fieldLink RX8 34 "HookPier$Plan" "spots" "I", .methodLink RX8 37 yX8_isFree, .instanceMethod yX8_isFree, .selects RX8 yX8_isFree yX8_isFree, .code yX8_isFree cX8_isFree 5 (some .boolean), .methodLink RX8 47 yX6_isTangle, .instanceMethod yX6_isTangle, .selects RX6 yX6_isTangle yX6_isTangle, .initialized RX6, .code yX6_isTangle cX6_isTangle 5 (some .boolean), .methodLink RX6 89 Lib.Math.abs.name, .static Lib.Math.abs.name, .initialized "java/lang/Math", .code Lib.Math.abs.name Lib.Math.abs.code 1 (some .int), .fieldLink RX6 39 "HookPier$Plan" "reach" "[I"]) [23, 24, 25, 26, 27, 22, 28, 29, 30, 31, 32, 33, 34, 35, 36, 37, 38, 39, 40, 41, 42, 43, 44, 45, 46, 47, 48, 49, 50, 51, 52, 53, 54] (by decide +kernel) (by decide +kernel) : GoodIn vfX10_seatings (.code yX8_countRows cX8_countRows 4 (some .int) :: [.fieldLink RX8 18 "HookPier$Seats" "found" "I", .methodLink RX8 22 yX8_fill, .instanceMethod yX8_fill, .selects RX8 yX8_fill yX8_fill, .initialized RX8, .code yX8_fill cX8_fill 6 none, .fieldLink RX8 26 "HookPier$Plan" "askers" "I", .methodLink RX8 31 yX8_keepRow, .instanceMethod yX8_keepRow, .selects RX8 yX8_keepRow yX8_keepRow, .code yX8_keepRow cX8_keepRow 1 none, .fieldLink RX8 9 "HookPier$Seats" "row" "[I", .fieldLink RX8 15 "HookPier$Seats" "first" "[I", .methodLink RX8 41 arraycopyName, .native arraycopyName, .static arraycopyName, .initialized "java/lang/System", .fieldLink RX8 34 "HookPier$Plan" "spots" "I", .methodLink RX8 37 yX8_isFree, .instanceMethod yX8_isFree, .selects RX8 yX8_isFree yX8_isFree, .code yX8_isFree cX8_isFree 5 (some .boolean), .methodLink RX8 47 yX6_isTangle, .instanceMethod yX6_isTangle, .selects RX6 yX6_isTangle yX6_isTangle, .initialized RX6, .code yX6_isTangle cX6_isTangle 5 (some .boolean), .methodLink RX6 89 Lib.Math.abs.name, .static Lib.Math.abs.name, .initialized "java/lang/Math", .code Lib.Math.abs.name Lib.Math.abs.code 1 (some .int), .fieldLink RX6 39 "HookPier$Plan" "reach" "[I"])) (goodIn_sub ifX10_seatings_X8 (by decide +kernel))) (goodIn_sub ifX10_seatings_X6 (by decide +kernel)))
set_option maxHeartbeats 2000000 in
set_option maxRecDepth 100000 in
theorem kfX10_seatings (l : Launch) (dC : Nat → ClassId) (dI : Nat → Nat → Nat) (a0 : Nat) (a1 : Nat) (a2 : Nat) (up : Nat → Nat) (kp : Nat → ClassId) (us : Nat → Nat) (ks : Nat → ClassId) (x_x : TX10_x) (g8 : Value) (g9 : Value) (g10 : Value) (g11 : Value) (g12 : Value) (g13 : Value) (p_p : TX6_p) (s_s : TX8_s) (sz : Nat) (out : (Int32 × TX10_x × TX8_s)) (h : f_X10_seatings x_x p_p s_s = some out) : Met l yX10_seatings vfX10_seatings ({ frames := 9, cells := 0, slots := 0, locals := 233 }) (PC (dC, dI) [.ref a0] sz ((a0, .inr (7, [.ref a1, g8, g9, g10, g11, .ref a2, g12, g13, .int x_x.1, .int x_x.2])) :: bX6 a1 up kp p_p (bX8 a2 us ks s_s [])) (tX6 kp (tX8 ks ([])))) (va_Qi (S := Unit) (fun (r : Int32) _ => r = out.1) (fun _ t => BC (dC, dI) (va_A ((a0, .inr (7, [.ref a1, g8, g9, g10, g11, .ref a2, g12, g13, .int x_x.1, .int x_x.2])) :: bX6 a1 up kp p_p (bX8 a2 us ks s_s [])) sz) ((a0, .inr (7, [.ref a1, g8, g9, g10, g11, .ref a2, g12, g13, .int out.2.1.1, .int out.2.1.2])) :: bX6 a1 up kp p_p (bX8 a2 us ks out.2.2 [])) [] t) (va_A ((a0, .inr (7, [.ref a1, g8, g9, g10, g11, .ref a2, g12, g13, .int x_x.1, .int x_x.2])) :: bX6 a1 up kp p_p (bX8 a2 us ks s_s [])) sz)) 0 0 (va_A ((a0, .inr (7, [.ref a1, g8, g9, g10, g11, .ref a2, g12, g13, .int x_x.1, .int x_x.2])) :: bX6 a1 up kp p_p (bX8 a2 us ks s_s [])) sz) := by
  refine Met.ofW (cc := cX10_seatings) (maxL := 2) (ret := (some .int)) (by decide) rfl ?_
  intro p e s m args below meth c s₁ B0 hml hv
  obtain ⟨rfl, hsz, hP, hK, hD0, hN⟩ := hv
  have hx := B0.exec
  have hb := B0.bytes
  have hr := B0.returns
  have hts := atoms_spec (ws := vfX10_seatings) B0.pre
  have hown : s.vm.findClass RX10 = some m.cls := findClass_of_methodNamed B0.named
  have hlocks := B0.notSynchronized
  subst hsz
  have hD := hD0.self (sz := s.heap.size)
  generalize hAe : va_A ((a0, .inr (7, [.ref a1, g8, g9, g10, g11, .ref a2, g12, g13, .int x_x.1, .int x_x.2])) :: bX6 a1 up kp p_p (bX8 a2 us ks s_s [])) s.heap.size = A at hD ⊢
  have hA : ∀ q : Nat, s.heap.size ≤ q → A q := fun q h => by rw [← hAe]; exact Or.inr h
  have hS : va_S A s.heap s.heap [] := va_S.rf
  have hP : va_P (dC, dI) vwCl ((a0, .inr (7, [.ref a1, g8, g9, g10, g11, .ref a2, g12, g13, .int x_x.1, .int x_x.2])) :: bX6 a1 up kp p_p (bX8 a2 us ks s_s [])) s.heap := hP
  have hl := lv_entry ([.ref a0]) (n := 2) (Nat.le_of_ble_eq_true rfl)
  rw [lg_entry_eq]
  generalize (lg_sl ([.ref a0]) ++ List.replicate (2 - (lg_sl ([.ref a0])).length) Slot.unset).toArray = ls at hl ⊢
  have hl : lv_has ls 2 [(0, .ref a0)] := hl
  refine W_q (fun QQ hQQ => ?_)
  rw [f_X10_seatings] at h
  refine lv_aload_n hx hb dX10_seatings_0 rfl (lv_at hl 0 rfl) ?_
  obtain ⟨o1, eo1⟩ : ∃ o, o = f_X10_pierTrouble p_p := ⟨_, rfl⟩
  have h := nm_of h o1 eo1
  refine cl_i (wc := ((a0, .inr (7, [.ref a1, g8, g9, g10, g11, .ref a2, g12, g13, .int x_x.1, .int x_x.2])) :: bX6 a1 up kp p_p [])) (wr := (bX8 a2 us ks s_s [])) (va_runV (As := []) (rest := []) ⟨hx, hb, hml, hown, hts⟩ (kfX10_pierTrouble l dC dI a0 a1 up kp (g8) (g9) (g10) (g11) (.ref a2) (g12) (g13) (.int x_x.1) (.int x_x.2) p_p s.heap.size o1 eo1.symm) (cwV 0 hts gfX10_seatings_0 rfl rfl rfl (by decide +kernel) ⟨(Nat.le_of_ble_eq_true rfl), (Nat.le_of_ble_eq_true rfl)⟩) (PV (hP.sub (ws' := ((a0, .inr (7, [.ref a1, g8, g9, g10, g11, .ref a2, g12, g13, .int x_x.1, .int x_x.2])) :: bX6 a1 up kp p_p [])) [0, 1, 2, 3, 4, 5, 6, 7, 8, 9, 10] rfl) (hK.sub (tys' := (tX6 kp ([]))) [0, 1, 2, 3, 4, 5, 6, 7, 8] rfl) (hD.sub (ws' := ((a0, .inr (7, [.ref a1, g8, g9, g10, g11, .ref a2, g12, g13, .int x_x.1, .int x_x.2])) :: bX6 a1 up kp p_p [])) [0, 1, 2, 3, 4, 5, 6, 7, 8, 9, 10] (by decide) rfl) hN 0 rfl rfl) rfl rfl hl.1 rfl (lv_room (Nat.le_of_ble_eq_true rfl)) dX10_seatings_1 ⟨(Nat.le_of_ble_eq_true rfl), (Nat.le_of_ble_eq_true rfl)⟩) hP hD hK hS hA [0, 1, 2, 3, 4, 5, 6, 7, 8, 9, 10] [11, 12, 13] rfl rfl (by decide) (by decide) (fun r1 _ H locs hw hP hD _ hS => ?_)
  obtain rfl := hw.symm
  have hP : va_P (dC, dI) vwCl (bX8 a2 us ks s_s ((a0, .inr (7, [.ref a1, g8, g9, g10, g11, .ref a2, g12, g13, .int x_x.1, .int x_x.2])) :: bX6 a1 up kp p_p [])) H := hP
  have hD : va_D A (bX8 a2 us ks s_s ((a0, .inr (7, [.ref a1, g8, g9, g10, g11, .ref a2, g12, g13, .int x_x.1, .int x_x.2])) :: bX6 a1 up kp p_p [])) := hD
  refine lv_istore_n (lv' := [(1, .int o1), (0, .ref a0)]) hx hb dX10_seatings_4 rfl hl (by decide) rfl (fun ls hl => ?_)
  refine lv_aload_n hx hb dX10_seatings_5 rfl (lv_at hl 1 rfl) ?_
  refine lv_iload_n hx hb dX10_seatings_6 rfl (lv_at hl 0 rfl) ?_
  have J26 : ∀ (v26_t1 : Int32) (H : Heap) (locs : List Loc) (ls : Array Slot), f_X10_seatings_J26 x_x p_p s_s v26_t1 = some out → va_P (dC, dI) vwCl (bX8 a2 us ks s_s ((a0, .inr (7, [.ref a1, g8, g9, g10, g11, .ref a2, g12, g13, .int x_x.1, .int x_x.2])) :: bX6 a1 up kp p_p [])) H → va_D A (bX8 a2 us ks s_s ((a0, .inr (7, [.ref a1, g8, g9, g10, g11, .ref a2, g12, g13, .int x_x.1, .int x_x.2])) :: bX6 a1 up kp p_p [])) → va_S A s.heap H locs → lv_has ls 2 [(0, .ref a0)] → W p l e (headSpec vfX10_seatings { frames := 9, cells := 0, slots := 0, locals := 233 }).room s m ([.ref a0]).toArray below meth c H locs 0 0 QQ (F0 m 26 ls [.int v26_t1, .ref a0]) := by
    intro v26_t1 H locs ls h  hP hD hS hl
    rw [f_X10_seatings_J26] at h
    obtain ⟨o26, eo26⟩ : ∃ o, o = f_X10_refused v26_t1 x_x := ⟨_, rfl⟩
    have h := nm_of h o26 eo26
    refine cl_i (wc := ([(a0, .inr (7, [.ref a1, g8, g9, g10, g11, .ref a2, g12, g13, .int x_x.1, .int x_x.2]))])) (wr := (bX8 a2 us ks s_s (bX6 a1 up kp p_p []))) (va_runV (As := [.int v26_t1]) (rest := []) ⟨hx, hb, hml, hown, hts⟩ (kfX10_refused l dC dI a0 v26_t1 x_x (.ref a1) (g8) (g9) (g10) (g11) (.ref a2) (g12) (g13) H.size o26 eo26.symm) (cwV 1 hts gfX10_seatings_1 rfl rfl rfl (by decide +kernel) ⟨(Nat.le_of_ble_eq_true rfl), (Nat.le_of_ble_eq_true rfl)⟩) (PV (hP.sub (ws' := ([(a0, .inr (7, [.ref a1, g8, g9, g10, g11, .ref a2, g12, g13, .int x_x.1, .int x_x.2]))])) [3] rfl) (hK.sub (tys' := ([])) [] rfl) (hD.sub (ws' := ([(a0, .inr (7, [.ref a1, g8, g9, g10, g11, .ref a2, g12, g13, .int x_x.1, .int x_x.2]))])) [3] (by decide) rfl) hN 0 rfl rfl) rfl rfl hl.1 rfl (lv_room (Nat.le_of_ble_eq_true rfl)) dX10_seatings_26 ⟨(Nat.le_of_ble_eq_true rfl), (Nat.le_of_ble_eq_true rfl)⟩) hP hD hK hS hA [3] [0, 1, 2, 4, 5, 6, 7, 8, 9, 10, 11, 12, 13] rfl rfl (by decide) (by decide) (fun r26 _ H locs hw hP hD _ hS => ?_)
    obtain ⟨hw, br26⟩ := hw
    obtain rfl := hw
    have hP : va_P (dC, dI) vwCl (bX8 a2 us ks s_s (bX6 a1 up kp p_p ([(a0, .inr (7, [.ref a1, g8, g9, g10, g11, .ref a2, g12, g13, .int o26.2.1, .int o26.2.2]))]))) H := hP
    have hD : va_D A (bX8 a2 us ks s_s (bX6 a1 up kp p_p ([(a0, .inr (7, [.ref a1, g8, g9, g10, g11, .ref a2, g12, g13, .int o26.2.1, .int o26.2.2]))]))) := hD
    refine lv_if_eq (tgt := 34) hx hb dX10_seatings_29 (by decide) (fun c29 => ?_) (fun c29 => ?_)
    · have h := (if_pos c29).symm.trans h
      refine lv_aload_n hx hb dX10_seatings_34 rfl (lv_at hl 0 rfl) ?_
      refine va_get (D := (dC, dI)) (ci := 7) (v := .ref a2) (C := RX10) (T := TX10) (N := 10) hx hb hts ifX10_seatings_X10 hown hK hP 13 rfl rfl 5 (by decide) (hts (.fieldLink RX10 43 "HookPier" "seats" "LHookPier$Seats;") (List.mem_of_getElem? (i := 13) rfl)) (fun _ h9 => h9) rfl dX10_seatings_35 ?_
      refine lv_aload_n hx hb dX10_seatings_38 rfl (lv_at hl 0 rfl) ?_
      refine va_get (D := (dC, dI)) (ci := 7) (v := .ref a1) (C := RX10) (T := TX10) (N := 10) hx hb hts ifX10_seatings_X10 hown hK hP 13 rfl rfl 0 (by decide) (hts (.fieldLink RX10 10 "HookPier" "plan" "LHookPier$Plan;") (List.mem_of_getElem? (i := 6) rfl)) (fun _ h9 => h9) rfl dX10_seatings_39 ?_
      refine lv_aload_n hx hb dX10_seatings_42 rfl (lv_at hl 0 rfl) ?_
      obtain ⟨o43, eo43⟩ : ∃ o, o = f_X10_everyAsker p_p := ⟨_, rfl⟩
      have h := nm_of h o43 eo43
      refine cl_i (wc := ((a0, .inr (7, [.ref a1, g8, g9, g10, g11, .ref a2, g12, g13, .int o26.2.1, .int o26.2.2])) :: bX6 a1 up kp p_p [])) (wr := (bX8 a2 us ks s_s [])) (va_runV (As := []) (rest := [.ref a1, .ref a2]) ⟨hx, hb, hml, hown, hts⟩ (kfX10_everyAsker l dC dI a0 a1 up kp (g8) (g9) (g10) (g11) (.ref a2) (g12) (g13) (.int o26.2.1) (.int o26.2.2) p_p H.size o43 eo43.symm) (cwV 0 hts gfX10_seatings_2 rfl rfl rfl (by decide +kernel) ⟨(Nat.le_of_ble_eq_true rfl), (Nat.le_of_ble_eq_true rfl)⟩) (PV (hP.sub (ws' := ((a0, .inr (7, [.ref a1, g8, g9, g10, g11, .ref a2, g12, g13, .int o26.2.1, .int o26.2.2])) :: bX6 a1 up kp p_p [])) [13, 3, 4, 5, 6, 7, 8, 9, 10, 11, 12] rfl) (hK.sub (tys' := (tX6 kp ([]))) [0, 1, 2, 3, 4, 5, 6, 7, 8] rfl) (hD.sub (ws' := ((a0, .inr (7, [.ref a1, g8, g9, g10, g11, .ref a2, g12, g13, .int o26.2.1, .int o26.2.2])) :: bX6 a1 up kp p_p [])) [13, 3, 4, 5, 6, 7, 8, 9, 10, 11, 12] (by decide) rfl) hN 0 rfl rfl) rfl rfl hl.1 rfl (lv_room (Nat.le_of_ble_eq_true rfl)) dX10_seatings_43 ⟨(Nat.le_of_ble_eq_true rfl), (Nat.le_of_ble_eq_true rfl)⟩) hP hD hK hS hA [13, 3, 4, 5, 6, 7, 8, 9, 10, 11, 12] [0, 1, 2] rfl rfl (by decide) (by decide) (fun r43 _ H locs hw hP hD _ hS => ?_)
      obtain rfl := hw.symm
      have hP : va_P (dC, dI) vwCl (bX8 a2 us ks s_s ((a0, .inr (7, [.ref a1, g8, g9, g10, g11, .ref a2, g12, g13, .int o26.2.1, .int o26.2.2])) :: bX6 a1 up kp p_p [])) H := hP
      have hD : va_D A (bX8 a2 us ks s_s ((a0, .inr (7, [.ref a1, g8, g9, g10, g11, .ref a2, g12, g13, .int o26.2.1, .int o26.2.2])) :: bX6 a1 up kp p_p [])) := hD
      refine lv_sipush (v := 6720) hx hb dX10_seatings_46 (by decide) ?_
      obtain ⟨o49, eo49, h⟩ := bd_of h
      refine cl_i (wc := (bX8 a2 us ks s_s (bX6 a1 up kp p_p []))) (wr := ([(a0, .inr (7, [.ref a1, g8, g9, g10, g11, .ref a2, g12, g13, .int o26.2.1, .int o26.2.2]))])) (va_runV (As := [.ref a1, .int o43, .int 6720]) (rest := []) ⟨hx, hb, hml, hown, hts⟩ (kfX8_countRows l dC dI a2 a1 o43 (6720 : Int32) us ks up kp s_s p_p H.size o49 eo49) (cwV 3 hts gfX10_seatings_3 rfl rfl rfl (by decide +kernel) ⟨(Nat.le_of_ble_eq_true rfl), (Nat.le_of_ble_eq_true rfl)⟩) (PV (hP.sub (ws' := (bX8 a2 us ks s_s (bX6 a1 up kp p_p []))) [0, 1, 2, 4, 5, 6, 7, 8, 9, 10, 11, 12, 13] rfl) (hK.sub (tys' := (tX8 ks (tX6 kp ([])))) [9, 10, 0, 1, 2, 3, 4, 5, 6, 7, 8] rfl) (hD.sub (ws' := (bX8 a2 us ks s_s (bX6 a1 up kp p_p []))) [0, 1, 2, 4, 5, 6, 7, 8, 9, 10, 11, 12, 13] (by decide) rfl) hN 0 rfl rfl) rfl rfl hl.1 rfl (lv_room (Nat.le_of_ble_eq_true rfl)) dX10_seatings_49 ⟨(Nat.le_of_ble_eq_true rfl), (Nat.le_of_ble_eq_true rfl)⟩) hP hD hK hS hA [0, 1, 2, 4, 5, 6, 7, 8, 9, 10, 11, 12, 13] [3] rfl rfl (by decide) (by decide) (fun r49 _ H locs hw hP hD _ hS => ?_)
      obtain rfl := hw
      have hP : va_P (dC, dI) vwCl ((a0, .inr (7, [.ref a1, g8, g9, g10, g11, .ref a2, g12, g13, .int o26.2.1, .int o26.2.2])) :: bX8 a2 us ks o49.2 (bX6 a1 up kp p_p [])) H := hP
      have hD : va_D A ((a0, .inr (7, [.ref a1, g8, g9, g10, g11, .ref a2, g12, g13, .int o26.2.1, .int o26.2.2])) :: bX8 a2 us ks o49.2 (bX6 a1 up kp p_p [])) := hD
      obtain rfl := Option.some.inj h
      have hP9 := hP.sub (ws' := ((a0, .inr (7, [.ref a1, g8, g9, g10, g11, .ref a2, g12, g13, .int o26.2.1, .int o26.2.2])) :: bX6 a1 up kp p_p (bX8 a2 us ks o49.2 []))) [0, 4, 5, 6, 7, 8, 9, 10, 11, 12, 13, 1, 2, 3] rfl
      have hD9 := hD.sub (ws' := ((a0, .inr (7, [.ref a1, g8, g9, g10, g11, .ref a2, g12, g13, .int o26.2.1, .int o26.2.2])) :: bX6 a1 up kp p_p (bX8 a2 us ks o49.2 []))) [0, 4, 5, 6, 7, 8, 9, 10, 11, 12, 13, 1, 2, 3] (by decide) rfl
      have hK9 := hK.sub (tys' := []) [] rfl
      rw [hQQ]
      exact W.iret (v := o49.1) hx hb hr (fun t ht hW => ⟨⟨o49.1, (), rfl, rfl, by rw [ht]; exact hP9, va_K.moved hW.alike hK9, hD9⟩, hS.F ht⟩) hS.2.2 dX10_seatings_52
    · have h := (if_neg c29).symm.trans h
      refine lv_iconst (v := (-1)) hx hb dX10_seatings_32 (by decide) ?_
      obtain rfl := Option.some.inj h
      have hP9 := hP.sub (ws' := ((a0, .inr (7, [.ref a1, g8, g9, g10, g11, .ref a2, g12, g13, .int o26.2.1, .int o26.2.2])) :: bX6 a1 up kp p_p (bX8 a2 us ks s_s []))) [13, 3, 4, 5, 6, 7, 8, 9, 10, 11, 12, 0, 1, 2] rfl
      have hD9 := hD.sub (ws' := ((a0, .inr (7, [.ref a1, g8, g9, g10, g11, .ref a2, g12, g13, .int o26.2.1, .int o26.2.2])) :: bX6 a1 up kp p_p (bX8 a2 us ks s_s []))) [13, 3, 4, 5, 6, 7, 8, 9, 10, 11, 12, 0, 1, 2] (by decide) rfl
      have hK9 := hK.sub (tys' := []) [] rfl
      rw [hQQ]
      exact W.iret (v := (-1 : Int32)) hx hb hr (fun t ht hW => ⟨⟨(-1 : Int32), (), rfl, rfl, by rw [ht]; exact hP9, va_K.moved hW.alike hK9, hD9⟩, hS.F ht⟩) hS.2.2 dX10_seatings_33
  have J25 : ∀ (H : Heap) (locs : List Loc) (ls : Array Slot), f_X10_seatings_J25 x_x p_p s_s o1 = some out → va_P (dC, dI) vwCl (bX8 a2 us ks s_s ((a0, .inr (7, [.ref a1, g8, g9, g10, g11, .ref a2, g12, g13, .int x_x.1, .int x_x.2])) :: bX6 a1 up kp p_p [])) H → va_D A (bX8 a2 us ks s_s ((a0, .inr (7, [.ref a1, g8, g9, g10, g11, .ref a2, g12, g13, .int x_x.1, .int x_x.2])) :: bX6 a1 up kp p_p [])) → va_S A s.heap H locs → lv_has ls 2 [(1, .int o1), (0, .ref a0)] → W p l e (headSpec vfX10_seatings { frames := 9, cells := 0, slots := 0, locals := 233 }).room s m ([.ref a0]).toArray below meth c H locs 0 0 QQ (F0 m 25 ls [.ref a0]) := by
    intro  H locs ls h  hP hD hS hl
    rw [f_X10_seatings_J25] at h
    refine lv_iload_n hx hb dX10_seatings_25 rfl (lv_at hl 0 rfl) ?_
    exact J26 o1 H _ ls h  hP hD hS (lv_sub hl [1] rfl)
  refine lv_if_ne (tgt := 25) hx hb dX10_seatings_7 (by decide) (fun c7 => ?_) (fun c7 => ?_)
  · have h := (if_neg c7).symm.trans h
    exact J25  H _ ls h  hP hD hS (lv_sub hl [0, 1] rfl)
  · have h := (if_pos c7).symm.trans h
    refine lv_aload_n hx hb dX10_seatings_10 rfl (lv_at hl 1 rfl) ?_
    refine va_get (D := (dC, dI)) (ci := 7) (v := .ref a1) (C := RX10) (T := TX10) (N := 10) hx hb hts ifX10_seatings_X10 hown hK hP 3 rfl rfl 0 (by decide) (hts (.fieldLink RX10 10 "HookPier" "plan" "LHookPier$Plan;") (List.mem_of_getElem? (i := 6) rfl)) (fun _ h9 => h9) rfl dX10_seatings_11 ?_
    refine va_get (D := (dC, dI)) (ci := 4) (v := .int p_p.2.2.2.2.2.1) (C := RX6) (T := TX6) (N := 18) hx hb hts ifX10_seatings_X6 hown hK hP 4 rfl rfl 5 (by decide) (hts (.fieldLink RX10 246 "HookPier$Plan" "askers" "I") (List.mem_of_getElem? (i := 18) rfl)) (fun _ h9 => h9) rfl dX10_seatings_14 ?_
    refine lv_if_ne (tgt := 25) hx hb dX10_seatings_17 (by decide) (fun c17 => ?_) (fun c17 => ?_)
    · have h := (if_neg c17).symm.trans h
      exact J25  H _ ls h  hP hD hS (lv_sub hl [0, 1] rfl)
    · have h := (if_pos c17).symm.trans h
      refine lv_bipush (v := 6) hx hb dX10_seatings_20 (by decide) ?_
      refine lv_goto (tgt := 26) hx hb dX10_seatings_22 (by decide) ?_
      exact J26 (6 : Int32) H _ ls h  hP hD hS (lv_sub hl [1] rfl)
theorem dX10_seat_0 : decode cX10_seat 0 = .ok (.aload_n 0, 1) := by decide +kernel
theorem dX10_seat_1 : decode cX10_seat 1 = .ok (.aload_n 0, 1) := by decide +kernel
theorem dX10_seat_12 : decode cX10_seat 12 = .ok (.iconst (-1), 1) := by decide +kernel
theorem dX10_seat_13 : decode cX10_seat 13 = .ok (.ireturn, 1) := by decide +kernel
theorem dX10_seat_14 : decode cX10_seat 14 = .ok (.aload_n 0, 1) := by decide +kernel
theorem dX10_seat_15 : decode cX10_seat 15 = .ok (.getfield 43, 3) := by decide +kernel
theorem dX10_seat_18 : decode cX10_seat 18 = .ok (.aload_n 0, 1) := by decide +kernel
theorem dX10_seat_19 : decode cX10_seat 19 = .ok (.getfield 10, 3) := by decide +kernel
theorem dX10_seat_2 : decode cX10_seat 2 = .ok (.iload_n 1, 1) := by decide +kernel
theorem dX10_seat_22 : decode cX10_seat 22 = .ok (.aload_n 0, 1) := by decide +kernel
theorem dX10_seat_23 : decode cX10_seat 23 = .ok (.invokevirtual 249, 3) := by decide +kernel
theorem dX10_seat_26 : decode cX10_seat 26 = .ok (.iconst 1, 1) := by decide +kernel
theorem dX10_seat_27 : decode cX10_seat 27 = .ok (.invokevirtual 252, 3) := by decide +kernel
theorem dX10_seat_3 : decode cX10_seat 3 = .ok (.invokevirtual 143, 3) := by decide +kernel
theorem dX10_seat_30 : decode cX10_seat 30 = .ok (.ifCond .ne 8, 3) := by decide +kernel
theorem dX10_seat_33 : decode cX10_seat 33 = .ok (.bipush (-2), 2) := by decide +kernel
theorem dX10_seat_35 : decode cX10_seat 35 = .ok (.goto 12, 3) := by decide +kernel
theorem dX10_seat_38 : decode cX10_seat 38 = .ok (.aload_n 0, 1) := by decide +kernel
theorem dX10_seat_39 : decode cX10_seat 39 = .ok (.getfield 43, 3) := by decide +kernel
theorem dX10_seat_42 : decode cX10_seat 42 = .ok (.getfield 256, 3) := by decide +kernel
theorem dX10_seat_45 : decode cX10_seat 45 = .ok (.iload_n 1, 1) := by decide +kernel
theorem dX10_seat_46 : decode cX10_seat 46 = .ok (.iaload, 1) := by decide +kernel
theorem dX10_seat_47 : decode cX10_seat 47 = .ok (.ireturn, 1) := by decide +kernel
theorem dX10_seat_6 : decode cX10_seat 6 = .ok (.invokevirtual 79, 3) := by decide +kernel
theorem dX10_seat_9 : decode cX10_seat 9 = .ok (.ifCond .eq 5, 3) := by decide +kernel
def vfX10_seat : List Cond := .code yX10_seat cX10_seat 2 (some .int) :: ([.methodLink RX10 143 yX10_askerTrouble, .instanceMethod yX10_askerTrouble, .selects RX10 yX10_askerTrouble yX10_askerTrouble, .initialized RX10, .code yX10_askerTrouble cX10_askerTrouble 2 (some .int), .fieldLink RX10 10 "HookPier" "plan" "LHookPier$Plan;", .methodLink RX10 236 yX6_hasAsker, .instanceMethod yX6_hasAsker, .selects RX6 yX6_hasAsker yX6_hasAsker, .initialized RX6, .code yX6_hasAsker cX6_hasAsker 2 (some .boolean), .fieldLink RX6 27 "HookPier$Plan" "askers" "I", .code yX10_within cX10_within 3 (some .boolean), .static yX10_within, .methodLink RX10 79 yX10_refused, .instanceMethod yX10_refused, .selects RX10 yX10_refused yX10_refused, .code yX10_refused cX10_refused 2 (some .boolean), .fieldLink RX10 61 "HookPier" "troubleNow" "I", .fieldLink RX10 43 "HookPier" "seats" "LHookPier$Seats;", .methodLink RX10 249 yX10_everyAsker, .instanceMethod yX10_everyAsker, .selects RX10 yX10_everyAsker yX10_everyAsker, .code yX10_everyAsker cX10_everyAsker 1 (some .int), .fieldLink RX10 246 "HookPier$Plan" "askers" "I", .methodLink RX10 252 yX8_countRows, .instanceMethod yX8_countRows, .selects RX8 yX8_countRows yX8_countRows, .initialized RX8, .code yX8_countRows cX8_countRows 4 (some .int), .fieldLink RX8 18 "HookPier$Seats" "found" "I", .methodLink RX8 22 yX8_fill, .instanceMethod yX8_fill, .selects RX8 yX8_fill yX8_fill, .code yX8_fill cX8_fill 6 none, .fieldLink RX8 26 "HookPier$Plan" "askers" "I", .methodLink RX8 31 yX8_keepRow, .instanceMethod yX8_keepRow, .selects RX8 yX8_keepRow yX8_keepRow, .code yX8_keepRow cX8_keepRow 1 none, .fieldLink RX8 9 "HookPier$Seats" "row" "[I", .fieldLink RX8 15 "HookPier$Seats" "first" "[I", .methodLink RX8 41 arraycopyName, .native arraycopyName, .static arraycopyName, .initialized "java/lang/System", .fieldLink RX8 34 "HookPier$Plan" "spots" "I", .methodLink RX8 37 yX8_isFree, .instanceMethod yX8_isFree, .selects RX8 yX8_isFree yX8_isFree, .code yX8_isFree cX8_isFree 5 (some .boolean), .methodLink RX8 47 yX6_isTangle, .instanceMethod yX6_isTangle, .selects RX6 yX6_isTangle yX6_isTangle, .code yX6_isTangle cX6_isTangle 5 (some .boolean), .methodLink RX6 89 Lib.Math.abs.name, .static Lib.Math.abs.name, .initialized "java/lang/Math", .code Lib.Math.abs.name Lib.Math.abs.code 1 (some .int), .fieldLink RX6 39 "HookPier$Plan" "reach" "[I", .fieldLink RX10 256 "HookPier$Seats" "first" "[I"] ++ wsX100 ++ wsX60 ++ wsX80)
theorem ifX10_seat_X10 : ∀ w ∈ wsX100, w ∈ vfX10_seat := fun _ h => List.mem_cons_of_mem _ (List.mem_append_left _ (List.mem_append_left _ (List.mem_append_right _ h)))
theorem ifX10_seat_X6 : ∀ w ∈ wsX60, w ∈ vfX10_seat := fun _ h => List.mem_cons_of_mem _ (List.mem_append_left _ (List.mem_append_right _ h))
theorem ifX10_seat_X8 : ∀ w ∈ wsX80, w ∈ vfX10_seat := fun _ h => List.mem_cons_of_mem _ (List.mem_append_right _ h)
set_option maxRecDepth 20000 in
theorem gfX10_seat_0 : GoodIn vfX10_seat (wsV RX10 143 RX10 yX10_askerTrouble vfX10_askerTrouble) := goodIn_app (goodIn_r [.methodLink RX10 143 yX10_askerTrouble, .instanceMethod yX10_askerTrouble, .selects RX10 yX10_askerTrouble yX10_askerTrouble, .initialized RX10] [1, 2, 3, 4] (by decide +kernel) (by decide +kernel)) (goodIn_ca (goodIn_ca (goodIn_r (.code yX10_askerTrouble cX10_askerTrouble 2 (some .int) :: [.fieldLink RX10 10 "HookPier" "plan" "LHookPier$Plan;", .methodLink RX10 236 yX6_hasAsker, .instanceMethod yX6_hasAsker, .selects RX6 yX6_hasAsker yX6_hasAsker, .initialized RX6, .code yX6_hasAsker cX6_hasAsker 2 (some .boolean), .fieldLink RX6 27 "HookPier$Plan" "askers" "I", .code yX10_within cX10_within 3 (some .boolean), .initialized RX10, .static yX10_within]) [5, 6, 7, 8, 9, 10, 11, 12, 13, 4, 14] (by decide +kernel) (by decide +kernel) : GoodIn vfX10_seat (.code yX10_askerTrouble cX10_askerTrouble 2 (some .int) :: [.fieldLink RX10 10 "HookPier" "plan" "LHookPier$Plan;", .methodLink RX10 236 yX6_hasAsker, .instanceMethod yX6_hasAsker, .selects RX6 yX6_hasAsker yX6_hasAsker, .initialized RX6, .code yX6_hasAsker cX6_hasAsker 2 (some .boolean), .fieldLink RX6 27 "HookPier$Plan" "askers" "I", .code yX10_within cX10_within 3 (some .boolean), .initialized RX10, .static yX10_within])) (goodIn_sub ifX10_seat_X10 (by decide +kernel))) (goodIn_sub ifX10_seat_X6 (by decide +kernel)))
set_option maxRecDepth 20000 in
theorem gfX10_seat_1 : GoodIn vfX10_seat (wsV RX10 79 RX10 yX10_refused vfX10_refused) := goodIn_app (goodIn_r [.methodLink RX10 79 yX10_refused, .instanceMethod yX10_refused, .selects RX10 yX10_refused yX10_refused, .initialized RX10] [15, 16, 17, 4] (by decide +kernel) (by decide +kernel)) (goodIn_ca (goodIn_r (.code yX10_refused cX10_refused 2 (some .boolean) :: [.fieldLink RX10 61 "HookPier" "troubleNow" "I"]) [18, 19] (by decide +kernel) (by decide +kernel) : GoodIn vfX10_seat (.code yX10_refused cX10_refused 2 (some .boolean) :: [.fieldLink RX10 61 "HookPier" "troubleNow" "I"])) (goodIn_sub ifX10_seat_X10 (by decide +kernel)))
set_option maxRecDepth 20000 in
theorem gfX10_seat_2 : GoodIn vfX10_seat (wsV RX10 249 RX10 yX10_everyAsker vfX10_everyAsker) := goodIn_app (goodIn_r [.methodLink RX10 249 yX10_everyAsker, .instanceMethod yX10_everyAsker, .selects RX10 yX10_everyAsker yX10_everyAsker, .initialized RX10] [21, 22, 23, 4] (by decide +kernel) (by decide +kernel)) (goodIn_ca (goodIn_ca (goodIn_r (.code yX10_everyAsker cX10_everyAsker 1 (some .int) :: [.fieldLink RX10 10 "HookPier" "plan" "LHookPier$Plan;", .fieldLink RX10 246 "HookPier$Plan" "askers" "I"]) [24, 6, 25] (by decide +kernel) (by decide +kernel) : GoodIn vfX10_seat (.code yX10_everyAsker cX10_everyAsker 1 (some .int) :: [.fieldLink RX10 10 "HookPier" "plan" "LHookPier$Plan;", .fieldLink RX10 246 "HookPier$Plan" "askers" "I"])) (goodIn_sub ifX10_seat_X10 (by decide +kernel))) (goodIn_sub ifX10_seat_X6 (by decide +kernel)))
set_option maxRecDepth 20000 in
theorem gfX10_seat_3 : GoodIn vfX10_seat (wsV RX10 252 RX8 yX8_countRows vfX8_countRows) := goodIn_app (goodIn_r [.methodLink RX10 252 yX8_countRows, .instanceMethod yX8_countRows, .selects RX8 yX8_countRows yX8_countRows, .initialized RX8] [26, 27, 28, 29] (by decide +kernel) (by decide +kernel)) (goodIn_ca (goodIn_ca (goodIn_r (.code yX8_countRows cX8_countRows 4 (some .int) :: [.fieldLink RX8 18 "HookPier$Seats" "found" "I", .methodLink RX8 22 yX8_fill, .instanceMethod yX8_fill, .selects RX8 yX8_fill yX8_fill, .initialized RX8, .code yX8_fill cX8_fill 6 none, .fieldLink RX8 26 "HookPier$Plan" "askers" "I", .methodLink RX8 31 yX8_keepRow, .instanceMethod yX8_keepRow, .selects RX8 yX8_keepRow yX8_keepRow, .code yX8_keepRow cX8_keepRow 1 none, .fieldLink RX8 9 "HookPier$Seats" "row" "[I", .fieldLink RX8 15 "HookPier$Seats" "first" "[I", .methodLink RX8 41 arraycopyName, .native arraycopyName, .static arraycopyName, .initialized "java/lang/System", .fieldLink RX8 34 "HookPier$Plan" "spots" "I", .methodLink RX8 37 yX8_isFree, .instanceMethod yX8_isFree, .selects RX8 yX8_isFree yX8_isFree, .code yX8_isFree cX8_isFree 5 (some .boolean), .methodLink RX8 47 yX6_isTangle, .instanceMethod yX6_isTangle, .selects RX6 yX6_isTangle yX6_isTangle, .initialized RX6, .code yX6_isTangle cX6_isTangle 5 (some .boolean), .methodLink RX6 89 Lib.Math.abs.name, .static Lib.Math.abs.name, .initialized "java/lang/Math", .code Lib.Math.abs.name Lib.Math.abs.code 1 (some .int), .fieldLink RX6 39 "HookPier$Plan" "reach" "[I"]) [30, 31, 32, 33, 34, 29, 35, 36, 37, 38, 39, 40, 41, 42, 43, 44, 45, 46, 47, 48, 49, 50, 51, 52, 53, 54, 10, 55, 56, 57, 58, 59, 60] (by decide +kernel) (by decide +kernel) : GoodIn vfX10_seat (.code yX8_countRows cX8_countRows 4 (some .int) :: [.fieldLink RX8 18 "HookPier$Seats" "found" "I", .methodLink RX8 22 yX8_fill, .instanceMethod yX8_fill, .selects RX8 yX8_fill yX8_fill, .initialized RX8, .code yX8_fill cX8_fill 6 none, .fieldLink RX8 26 "HookPier$Plan" "askers" "I", .methodLink RX8 31 yX8_keepRow, .instanceMethod yX8_keepRow, .selects RX8 yX8_keepRow yX8_keepRow, .code yX8_keepRow cX8_keepRow 1 none, .fieldLink RX8 9 "HookPier$Seats" "row" "[I", .fieldLink RX8 15 "HookPier$Seats" "first" "[I", .methodLink RX8 41 arraycopyName, .native arraycopyName, .static arraycopyName, .initialized "java/lang/System", .fieldLink RX8 34 "HookPier$Plan" "spots" "I", .methodLink RX8 37 yX8_isFree, .instanceMethod yX8_isFree, .selects RX8 yX8_isFree yX8_isFree, .code yX8_isFree cX8_isFree 5 (some .boolean), .methodLink RX8 47 yX6_isTangle, .instanceMethod yX6_isTangle, .selects RX6 yX6_isTangle yX6_isTangle, .initialized RX6, .code yX6_isTangle cX6_isTangle 5 (some .boolean), .methodLink RX6 89 Lib.Math.abs.name, .static Lib.Math.abs.name, .initialized "java/lang/Math", .code Lib.Math.abs.name Lib.Math.abs.code 1 (some .int), .fieldLink RX6 39 "HookPier$Plan" "reach" "[I"])) (goodIn_sub ifX10_seat_X8 (by decide +kernel))) (goodIn_sub ifX10_seat_X6 (by decide +kernel)))
set_option maxHeartbeats 2000000 in
set_option maxRecDepth 100000 in
theorem kfX10_seat (l : Launch) (dC : Nat → ClassId) (dI : Nat → Nat → Nat) (a0 : Nat) (k1 : Int32) (a2 : Nat) (a3 : Nat) (up : Nat → Nat) (kp : Nat → ClassId) (us : Nat → Nat) (ks : Nat → ClassId) (x_x : TX10_x) (g9 : Value) (g10 : Value) (g11 : Value) (g12 : Value) (g13 : Value) (g14 : Value) (p_p : TX6_p) (s_s : TX8_s) (sz : Nat) (out : (Int32 × TX10_x × TX8_s)) (h : f_X10_seat k1 x_x p_p s_s = some out) : Met l yX10_seat vfX10_seat ({ frames := 9, cells := 0, slots := 0, locals := 233 }) (PC (dC, dI) [.ref a0, .int k1] sz ((a0, .inr (7, [.ref a2, g9, g10, g11, g12, .ref a3, g13, g14, .int x_x.1, .int x_x.2])) :: bX6 a2 up kp p_p (bX8 a3 us ks s_s [])) (tX6 kp (tX8 ks ([])))) (va_Qi (S := Unit) (fun (r : Int32) _ => r = out.1) (fun _ t => BC (dC, dI) (va_A ((a0, .inr (7, [.ref a2, g9, g10, g11, g12, .ref a3, g13, g14, .int x_x.1, .int x_x.2])) :: bX6 a2 up kp p_p (bX8 a3 us ks s_s [])) sz) ((a0, .inr (7, [.ref a2, g9, g10, g11, g12, .ref a3, g13, g14, .int out.2.1.1, .int out.2.1.2])) :: bX6 a2 up kp p_p (bX8 a3 us ks out.2.2 [])) [] t) (va_A ((a0, .inr (7, [.ref a2, g9, g10, g11, g12, .ref a3, g13, g14, .int x_x.1, .int x_x.2])) :: bX6 a2 up kp p_p (bX8 a3 us ks s_s [])) sz)) 0 0 (va_A ((a0, .inr (7, [.ref a2, g9, g10, g11, g12, .ref a3, g13, g14, .int x_x.1, .int x_x.2])) :: bX6 a2 up kp p_p (bX8 a3 us ks s_s [])) sz) := by
  refine Met.ofW (cc := cX10_seat) (maxL := 2) (ret := (some .int)) (by decide) rfl ?_
  intro p e s m args below meth c s₁ B0 hml hv
  obtain ⟨rfl, hsz, hP, hK, hD0, hN⟩ := hv
  have hx := B0.exec
  have hb := B0.bytes
  have hr := B0.returns
  have hts := atoms_spec (ws := vfX10_seat) B0.pre
  have hown : s.vm.findClass RX10 = some m.cls := findClass_of_methodNamed B0.named
  have hlocks := B0.notSynchronized
  subst hsz
  have hD := hD0.self (sz := s.heap.size)
  generalize hAe : va_A ((a0, .inr (7, [.ref a2, g9, g10, g11, g12, .ref a3, g13, g14, .int x_x.1, .int x_x.2])) :: bX6 a2 up kp p_p (bX8 a3 us ks s_s [])) s.heap.size = A at hD ⊢
  have hA : ∀ q : Nat, s.heap.size ≤ q → A q := fun q h => by rw [← hAe]; exact Or.inr h
  have hS : va_S A s.heap s.heap [] := va_S.rf
  have hP : va_P (dC, dI) vwCl ((a0, .inr (7, [.ref a2, g9, g10, g11, g12, .ref a3, g13, g14, .int x_x.1, .int x_x.2])) :: bX6 a2 up kp p_p (bX8 a3 us ks s_s [])) s.heap := hP
  have hl := lv_entry ([.ref a0, .int k1]) (n := 2) (Nat.le_of_ble_eq_true rfl)
  rw [lg_entry_eq]
  generalize (lg_sl ([.ref a0, .int k1]) ++ List.replicate (2 - (lg_sl ([.ref a0, .int k1])).length) Slot.unset).toArray = ls at hl ⊢
  have hl : lv_has ls 2 [(0, .ref a0), (1, .int k1)] := hl
  refine W_q (fun QQ hQQ => ?_)
  rw [f_X10_seat] at h
  refine lv_aload_n hx hb dX10_seat_0 rfl (lv_at hl 0 rfl) ?_
  refine lv_aload_n hx hb dX10_seat_1 rfl (lv_at hl 0 rfl) ?_
  refine lv_iload_n hx hb dX10_seat_2 rfl (lv_at hl 1 rfl) ?_
  obtain ⟨o3, eo3⟩ : ∃ o, o = f_X10_askerTrouble k1 p_p := ⟨_, rfl⟩
  have h := nm_of h o3 eo3
  refine cl_i (wc := ((a0, .inr (7, [.ref a2, g9, g10, g11, g12, .ref a3, g13, g14, .int x_x.1, .int x_x.2])) :: bX6 a2 up kp p_p [])) (wr := (bX8 a3 us ks s_s [])) (va_runV (As := [.int k1]) (rest := [.ref a0]) ⟨hx, hb, hml, hown, hts⟩ (kfX10_askerTrouble l dC dI a0 k1 a2 up kp (g9) (g10) (g11) (g12) (.ref a3) (g13) (g14) (.int x_x.1) (.int x_x.2) p_p s.heap.size o3 eo3.symm) (cwV 1 hts gfX10_seat_0 rfl rfl rfl (by decide +kernel) ⟨(Nat.le_of_ble_eq_true rfl), (Nat.le_of_ble_eq_true rfl)⟩) (PV (hP.sub (ws' := ((a0, .inr (7, [.ref a2, g9, g10, g11, g12, .ref a3, g13, g14, .int x_x.1, .int x_x.2])) :: bX6 a2 up kp p_p [])) [0, 1, 2, 3, 4, 5, 6, 7, 8, 9, 10] rfl) (hK.sub (tys' := (tX6 kp ([]))) [0, 1, 2, 3, 4, 5, 6, 7, 8] rfl) (hD.sub (ws' := ((a0, .inr (7, [.ref a2, g9, g10, g11, g12, .ref a3, g13, g14, .int x_x.1, .int x_x.2])) :: bX6 a2 up kp p_p [])) [0, 1, 2, 3, 4, 5, 6, 7, 8, 9, 10] (by decide) rfl) hN 0 rfl rfl) rfl rfl hl.1 rfl (lv_room (Nat.le_of_ble_eq_true rfl)) dX10_seat_3 ⟨(Nat.le_of_ble_eq_true rfl), (Nat.le_of_ble_eq_true rfl)⟩) hP hD hK hS hA [0, 1, 2, 3, 4, 5, 6, 7, 8, 9, 10] [11, 12, 13] rfl rfl (by decide) (by decide) (fun r3 _ H locs hw hP hD _ hS => ?_)
  obtain rfl := hw.symm
  have hP : va_P (dC, dI) vwCl (bX8 a3 us ks s_s ((a0, .inr (7, [.ref a2, g9, g10, g11, g12, .ref a3, g13, g14, .int x_x.1, .int x_x.2])) :: bX6 a2 up kp p_p [])) H := hP
  have hD : va_D A (bX8 a3 us ks s_s ((a0, .inr (7, [.ref a2, g9, g10, g11, g12, .ref a3, g13, g14, .int x_x.1, .int x_x.2])) :: bX6 a2 up kp p_p [])) := hD
  obtain ⟨o6, eo6⟩ : ∃ o, o = f_X10_refused o3 x_x := ⟨_, rfl⟩
  have h := nm_of h o6 eo6
  refine cl_i (wc := ([(a0, .inr (7, [.ref a2, g9, g10, g11, g12, .ref a3, g13, g14, .int x_x.1, .int x_x.2]))])) (wr := (bX8 a3 us ks s_s (bX6 a2 up kp p_p []))) (va_runV (As := [.int o3]) (rest := []) ⟨hx, hb, hml, hown, hts⟩ (kfX10_refused l dC dI a0 o3 x_x (.ref a2) (g9) (g10) (g11) (g12) (.ref a3) (g13) (g14) H.size o6 eo6.symm) (cwV 1 hts gfX10_seat_1 rfl rfl rfl (by decide +kernel) ⟨(Nat.le_of_ble_eq_true rfl), (Nat.le_of_ble_eq_true rfl)⟩) (PV (hP.sub (ws' := ([(a0, .inr (7, [.ref a2, g9, g10, g11, g12, .ref a3, g13, g14, .int x_x.1, .int x_x.2]))])) [3] rfl) (hK.sub (tys' := ([])) [] rfl) (hD.sub (ws' := ([(a0, .inr (7, [.ref a2, g9, g10, g11, g12, .ref a3, g13, g14, .int x_x.1, .int x_x.2]))])) [3] (by decide) rfl) hN 0 rfl rfl) rfl rfl hl.1 rfl (lv_room (Nat.le_of_ble_eq_true rfl)) dX10_seat_6 ⟨(Nat.le_of_ble_eq_true rfl), (Nat.le_of_ble_eq_true rfl)⟩) hP hD hK hS hA [3] [0, 1, 2, 4, 5, 6, 7, 8, 9, 10, 11, 12, 13] rfl rfl (by decide) (by decide) (fun r6 _ H locs hw hP hD _ hS => ?_)
  obtain ⟨hw, br6⟩ := hw
  obtain rfl := hw
  have hP : va_P (dC, dI) vwCl (bX8 a3 us ks s_s (bX6 a2 up kp p_p ([(a0, .inr (7, [.ref a2, g9, g10, g11, g12, .ref a3, g13, g14, .int o6.2.1, .int o6.2.2]))]))) H := hP
  have hD : va_D A (bX8 a3 us ks s_s (bX6 a2 up kp p_p ([(a0, .inr (7, [.ref a2, g9, g10, g11, g12, .ref a3, g13, g14, .int o6.2.1, .int o6.2.2]))]))) := hD
  refine lv_if_eq (tgt := 14) hx hb dX10_seat_9 (by decide) (fun c9 => ?_) (fun c9 => ?_)
  · have h := (if_pos c9).symm.trans h
    refine lv_aload_n hx hb dX10_seat_14 rfl (lv_at hl 0 rfl) ?_
    refine va_get (D := (dC, dI)) (ci := 7) (v := .ref a3) (C := RX10) (T := TX10) (N := 10) hx hb hts ifX10_seat_X10 hown hK hP 13 rfl rfl 5 (by decide) (hts (.fieldLink RX10 43 "HookPier" "seats" "LHookPier$Seats;") (List.mem_of_getElem? (i := 20) rfl)) (fun _ h9 => h9) rfl dX10_seat_15 ?_
    refine lv_aload_n hx hb dX10_seat_18 rfl (lv_at hl 0 rfl) ?_
    refine va_get (D := (dC, dI)) (ci := 7) (v := .ref a2) (C := RX10) (T := TX10) (N := 10) hx hb hts ifX10_seat_X10 hown hK hP 13 rfl rfl 0 (by decide) (hts (.fieldLink RX10 10 "HookPier" "plan" "LHookPier$Plan;") (List.mem_of_getElem? (i := 6) rfl)) (fun _ h9 => h9) rfl dX10_seat_19 ?_
    refine lv_aload_n hx hb dX10_seat_22 rfl (lv_at hl 0 rfl) ?_
    obtain ⟨o23, eo23⟩ : ∃ o, o = f_X10_everyAsker p_p := ⟨_, rfl⟩
    have h := nm_of h o23 eo23
    refine cl_i (wc := ((a0, .inr (7, [.ref a2, g9, g10, g11, g12, .ref a3, g13, g14, .int o6.2.1, .int o6.2.2])) :: bX6 a2 up kp p_p [])) (wr := (bX8 a3 us ks s_s [])) (va_runV (As := []) (rest := [.ref a2, .ref a3]) ⟨hx, hb, hml, hown, hts⟩ (kfX10_everyAsker l dC dI a0 a2 up kp (g9) (g10) (g11) (g12) (.ref a3) (g13) (g14) (.int o6.2.1) (.int o6.2.2) p_p H.size o23 eo23.symm) (cwV 0 hts gfX10_seat_2 rfl rfl rfl (by decide +kernel) ⟨(Nat.le_of_ble_eq_true rfl), (Nat.le_of_ble_eq_true rfl)⟩) (PV (hP.sub (ws' := ((a0, .inr (7, [.ref a2, g9, g10, g11, g12, .ref a3, g13, g14, .int o6.2.1, .int o6.2.2])) :: bX6 a2 up kp p_p [])) [13, 3, 4, 5, 6, 7, 8, 9, 10, 11, 12] rfl) (hK.sub (tys' := (tX6 kp ([]))) [0, 1, 2, 3, 4, 5, 6, 7, 8] rfl) (hD.sub (ws' := ((a0, .inr (7, [.ref a2, g9, g10, g11, g12, .ref a3, g13, g14, .int o6.2.1, .int o6.2.2])) :: bX6 a2 up kp p_p [])) [13, 3, 4, 5, 6, 7, 8, 9, 10, 11, 12] (by decide) rfl) hN 0 rfl rfl) rfl rfl hl.1 rfl (lv_room (Nat.le_of_ble_eq_true rfl)) dX10_seat_23 ⟨(Nat.le_of_ble_eq_true rfl), (Nat.le_of_ble_eq_true rfl)⟩) hP hD hK hS hA [13, 3, 4, 5, 6, 7, 8, 9, 10, 11, 12] [0, 1, 2] rfl rfl (by decide) (by decide) (fun r23 _ H locs hw hP hD _ hS => ?_)
    obtain rfl := hw.symm
    have hP : va_P (dC, dI) vwCl (bX8 a3 us ks s_s ((a0, .inr (7, [.ref a2, g9, g10, g11, g12, .ref a3, g13, g14, .int o6.2.1, .int o6.2.2])) :: bX6 a2 up kp p_p [])) H := hP
    have hD : va_D A (bX8 a3 us ks s_s ((a0, .inr (7, [.ref a2, g9, g10, g11, g12, .ref a3, g13, g14, .int o6.2.1, .int o6.2.2])) :: bX6 a2 up kp p_p [])) := hD
    refine lv_iconst (v := 1) hx hb dX10_seat_26 (by decide) ?_
    obtain ⟨o27, eo27, h⟩ := bd_of h
    refine cl_i (wc := (bX8 a3 us ks s_s (bX6 a2 up kp p_p []))) (wr := ([(a0, .inr (7, [.ref a2, g9, g10, g11, g12, .ref a3, g13, g14, .int o6.2.1, .int o6.2.2]))])) (va_runV (As := [.ref a2, .int o23, .int 1]) (rest := []) ⟨hx, hb, hml, hown, hts⟩ (kfX8_countRows l dC dI a3 a2 o23 (1 : Int32) us ks up kp s_s p_p H.size o27 eo27) (cwV 3 hts gfX10_seat_3 rfl rfl rfl (by decide +kernel) ⟨(Nat.le_of_ble_eq_true rfl), (Nat.le_of_ble_eq_true rfl)⟩) (PV (hP.sub (ws' := (bX8 a3 us ks s_s (bX6 a2 up kp p_p []))) [0, 1, 2, 4, 5, 6, 7, 8, 9, 10, 11, 12, 13] rfl) (hK.sub (tys' := (tX8 ks (tX6 kp ([])))) [9, 10, 0, 1, 2, 3, 4, 5, 6, 7, 8] rfl) (hD.sub (ws' := (bX8 a3 us ks s_s (bX6 a2 up kp p_p []))) [0, 1, 2, 4, 5, 6, 7, 8, 9, 10, 11, 12, 13] (by decide) rfl) hN 0 rfl rfl) rfl rfl hl.1 rfl (lv_room (Nat.le_of_ble_eq_true rfl)) dX10_seat_27 ⟨(Nat.le_of_ble_eq_true rfl), (Nat.le_of_ble_eq_true rfl)⟩) hP hD hK hS hA [0, 1, 2, 4, 5, 6, 7, 8, 9, 10, 11, 12, 13] [3] rfl rfl (by decide) (by decide) (fun r27 _ H locs hw hP hD _ hS => ?_)
    obtain rfl := hw
    have hP : va_P (dC, dI) vwCl ((a0, .inr (7, [.ref a2, g9, g10, g11, g12, .ref a3, g13, g14, .int o6.2.1, .int o6.2.2])) :: bX8 a3 us ks o27.2 (bX6 a2 up kp p_p [])) H := hP
    have hD : va_D A ((a0, .inr (7, [.ref a2, g9, g10, g11, g12, .ref a3, g13, g14, .int o6.2.1, .int o6.2.2])) :: bX8 a3 us ks o27.2 (bX6 a2 up kp p_p [])) := hD
    refine lv_if_ne (tgt := 38) hx hb dX10_seat_30 (by decide) (fun c30 => ?_) (fun c30 => ?_)
    · have h := (if_neg c30).symm.trans h
      refine lv_aload_n hx hb dX10_seat_38 rfl (lv_at hl 0 rfl) ?_
      refine va_get (D := (dC, dI)) (ci := 7) (v := .ref a3) (C := RX10) (T := TX10) (N := 10) hx hb hts ifX10_seat_X10 hown hK hP 0 rfl rfl 5 (by decide) (hts (.fieldLink RX10 43 "HookPier" "seats" "LHookPier$Seats;") (List.mem_of_getElem? (i := 20) rfl)) (fun _ h9 => h9) rfl dX10_seat_39 ?_
      refine va_get (D := (dC, dI)) (ci := 6) (v := .ref (us 1)) (C := RX8) (T := TX8) (N := 3) hx hb hts ifX10_seat_X8 hown hK hP 1 rfl rfl 1 (by decide) (hts (.fieldLink RX10 256 "HookPier$Seats" "first" "[I") (List.mem_of_getElem? (i := 61) rfl)) (fun _ h9 => h9) rfl dX10_seat_42 ?_
      refine lv_iload_n hx hb dX10_seat_45 rfl (lv_at hl 1 rfl) ?_
      obtain ⟨hg46, h⟩ := gA_of h
      refine va_iald hx hb hK hP 3 10 rfl rfl hg46 dX10_seat_46 ?_
      obtain rfl := Option.some.inj h
      have hP9 := hP.sub (ws' := ((a0, .inr (7, [.ref a2, g9, g10, g11, g12, .ref a3, g13, g14, .int o6.2.1, .int o6.2.2])) :: bX6 a2 up kp p_p (bX8 a3 us ks o27.2 []))) [0, 4, 5, 6, 7, 8, 9, 10, 11, 12, 13, 1, 2, 3] rfl
      have hD9 := hD.sub (ws' := ((a0, .inr (7, [.ref a2, g9, g10, g11, g12, .ref a3, g13, g14, .int o6.2.1, .int o6.2.2])) :: bX6 a2 up kp p_p (bX8 a3 us ks o27.2 []))) [0, 4, 5, 6, 7, 8, 9, 10, 11, 12, 13, 1, 2, 3] (by decide) rfl
      have hK9 := hK.sub (tys' := []) [] rfl
      rw [hQQ]
      exact W.iret (v := (o27.2.2.1 (k1).toNatClampNeg)) hx hb hr (fun t ht hW => ⟨⟨(o27.2.2.1 (k1).toNatClampNeg), (), rfl, rfl, by rw [ht]; exact hP9, va_K.moved hW.alike hK9, hD9⟩, hS.F ht⟩) hS.2.2 dX10_seat_47
    · have h := (if_pos c30).symm.trans h
      refine lv_bipush (v := (-2)) hx hb dX10_seat_33 (by decide) ?_
      refine lv_goto (tgt := 47) hx hb dX10_seat_35 (by decide) ?_
      obtain rfl := Option.some.inj h
      have hP9 := hP.sub (ws' := ((a0, .inr (7, [.ref a2, g9, g10, g11, g12, .ref a3, g13, g14, .int o6.2.1, .int o6.2.2])) :: bX6 a2 up kp p_p (bX8 a3 us ks o27.2 []))) [0, 4, 5, 6, 7, 8, 9, 10, 11, 12, 13, 1, 2, 3] rfl
      have hD9 := hD.sub (ws' := ((a0, .inr (7, [.ref a2, g9, g10, g11, g12, .ref a3, g13, g14, .int o6.2.1, .int o6.2.2])) :: bX6 a2 up kp p_p (bX8 a3 us ks o27.2 []))) [0, 4, 5, 6, 7, 8, 9, 10, 11, 12, 13, 1, 2, 3] (by decide) rfl
      have hK9 := hK.sub (tys' := []) [] rfl
      rw [hQQ]
      exact W.iret (v := (-2 : Int32)) hx hb hr (fun t ht hW => ⟨⟨(-2 : Int32), (), rfl, rfl, by rw [ht]; exact hP9, va_K.moved hW.alike hK9, hD9⟩, hS.F ht⟩) hS.2.2 dX10_seat_47
  · have h := (if_neg c9).symm.trans h
    refine lv_iconst (v := (-1)) hx hb dX10_seat_12 (by decide) ?_
    obtain rfl := Option.some.inj h
    have hP9 := hP.sub (ws' := ((a0, .inr (7, [.ref a2, g9, g10, g11, g12, .ref a3, g13, g14, .int o6.2.1, .int o6.2.2])) :: bX6 a2 up kp p_p (bX8 a3 us ks s_s []))) [13, 3, 4, 5, 6, 7, 8, 9, 10, 11, 12, 0, 1, 2] rfl
    have hD9 := hD.sub (ws' := ((a0, .inr (7, [.ref a2, g9, g10, g11, g12, .ref a3, g13, g14, .int o6.2.1, .int o6.2.2])) :: bX6 a2 up kp p_p (bX8 a3 us ks s_s []))) [13, 3, 4, 5, 6, 7, 8, 9, 10, 11, 12, 0, 1, 2] (by decide) rfl
    have hK9 := hK.sub (tys' := []) [] rfl
    rw [hQQ]
    exact W.iret (v := (-1 : Int32)) hx hb hr (fun t ht hW => ⟨⟨(-1 : Int32), (), rfl, rfl, by rw [ht]; exact hP9, va_K.moved hW.alike hK9, hD9⟩, hS.F ht⟩) hS.2.2 dX10_seat_13
theorem dJ6_bitCount_0f7a4_0 : decode cJ6_bitCount_0f7a4 0 = .ok (.iload_n 0, 1) := by decide +kernel
theorem dJ6_bitCount_0f7a4_1 : decode cJ6_bitCount_0f7a4 1 = .ok (.iload_n 0, 1) := by decide +kernel
theorem dJ6_bitCount_0f7a4_10 : decode cJ6_bitCount_0f7a4 10 = .ok (.iload_n 0, 1) := by decide +kernel
theorem dJ6_bitCount_0f7a4_11 : decode cJ6_bitCount_0f7a4 11 = .ok (.ldc_w 266, 3) := by decide +kernel
theorem dJ6_bitCount_0f7a4_14 : decode cJ6_bitCount_0f7a4 14 = .ok (.iand, 1) := by decide +kernel
theorem dJ6_bitCount_0f7a4_15 : decode cJ6_bitCount_0f7a4 15 = .ok (.iload_n 0, 1) := by decide +kernel
theorem dJ6_bitCount_0f7a4_16 : decode cJ6_bitCount_0f7a4 16 = .ok (.iconst 2, 1) := by decide +kernel
theorem dJ6_bitCount_0f7a4_17 : decode cJ6_bitCount_0f7a4 17 = .ok (.iushr, 1) := by decide +kernel
theorem dJ6_bitCount_0f7a4_18 : decode cJ6_bitCount_0f7a4 18 = .ok (.ldc_w 266, 3) := by decide +kernel
theorem dJ6_bitCount_0f7a4_2 : decode cJ6_bitCount_0f7a4 2 = .ok (.iconst 1, 1) := by decide +kernel
theorem dJ6_bitCount_0f7a4_21 : decode cJ6_bitCount_0f7a4 21 = .ok (.iand, 1) := by decide +kernel
theorem dJ6_bitCount_0f7a4_22 : decode cJ6_bitCount_0f7a4 22 = .ok (.iadd, 1) := by decide +kernel
theorem dJ6_bitCount_0f7a4_23 : decode cJ6_bitCount_0f7a4 23 = .ok (.istore_n 0, 1) := by decide +kernel
theorem dJ6_bitCount_0f7a4_24 : decode cJ6_bitCount_0f7a4 24 = .ok (.iload_n 0, 1) := by decide +kernel
theorem dJ6_bitCount_0f7a4_25 : decode cJ6_bitCount_0f7a4 25 = .ok (.iload_n 0, 1) := by decide +kernel
theorem dJ6_bitCount_0f7a4_26 : decode cJ6_bitCount_0f7a4 26 = .ok (.iconst 4, 1) := by decide +kernel
theorem dJ6_bitCount_0f7a4_27 : decode cJ6_bitCount_0f7a4 27 = .ok (.iushr, 1) := by decide +kernel
theorem dJ6_bitCount_0f7a4_28 : decode cJ6_bitCount_0f7a4 28 = .ok (.iadd, 1) := by decide +kernel
theorem dJ6_bitCount_0f7a4_29 : decode cJ6_bitCount_0f7a4 29 = .ok (.ldc_w 267, 3) := by decide +kernel
theorem dJ6_bitCount_0f7a4_3 : decode cJ6_bitCount_0f7a4 3 = .ok (.iushr, 1) := by decide +kernel
theorem dJ6_bitCount_0f7a4_32 : decode cJ6_bitCount_0f7a4 32 = .ok (.iand, 1) := by decide +kernel
theorem dJ6_bitCount_0f7a4_33 : decode cJ6_bitCount_0f7a4 33 = .ok (.istore_n 0, 1) := by decide +kernel
theorem dJ6_bitCount_0f7a4_34 : decode cJ6_bitCount_0f7a4 34 = .ok (.iload_n 0, 1) := by decide +kernel
theorem dJ6_bitCount_0f7a4_35 : decode cJ6_bitCount_0f7a4 35 = .ok (.iload_n 0, 1) := by decide +kernel
theorem dJ6_bitCount_0f7a4_36 : decode cJ6_bitCount_0f7a4 36 = .ok (.bipush 8, 2) := by decide +kernel
theorem dJ6_bitCount_0f7a4_38 : decode cJ6_bitCount_0f7a4 38 = .ok (.iushr, 1) := by decide +kernel
theorem dJ6_bitCount_0f7a4_39 : decode cJ6_bitCount_0f7a4 39 = .ok (.iadd, 1) := by decide +kernel
theorem dJ6_bitCount_0f7a4_4 : decode cJ6_bitCount_0f7a4 4 = .ok (.ldc_w 265, 3) := by decide +kernel
theorem dJ6_bitCount_0f7a4_40 : decode cJ6_bitCount_0f7a4 40 = .ok (.istore_n 0, 1) := by decide +kernel
theorem dJ6_bitCount_0f7a4_41 : decode cJ6_bitCount_0f7a4 41 = .ok (.iload_n 0, 1) := by decide +kernel
theorem dJ6_bitCount_0f7a4_42 : decode cJ6_bitCount_0f7a4 42 = .ok (.iload_n 0, 1) := by decide +kernel
theorem dJ6_bitCount_0f7a4_43 : decode cJ6_bitCount_0f7a4 43 = .ok (.bipush 16, 2) := by decide +kernel
theorem dJ6_bitCount_0f7a4_45 : decode cJ6_bitCount_0f7a4 45 = .ok (.iushr, 1) := by decide +kernel
theorem dJ6_bitCount_0f7a4_46 : decode cJ6_bitCount_0f7a4 46 = .ok (.iadd, 1) := by decide +kernel
theorem dJ6_bitCount_0f7a4_47 : decode cJ6_bitCount_0f7a4 47 = .ok (.istore_n 0, 1) := by decide +kernel
theorem dJ6_bitCount_0f7a4_48 : decode cJ6_bitCount_0f7a4 48 = .ok (.iload_n 0, 1) := by decide +kernel
theorem dJ6_bitCount_0f7a4_49 : decode cJ6_bitCount_0f7a4 49 = .ok (.bipush 63, 2) := by decide +kernel
theorem dJ6_bitCount_0f7a4_51 : decode cJ6_bitCount_0f7a4 51 = .ok (.iand, 1) := by decide +kernel
theorem dJ6_bitCount_0f7a4_52 : decode cJ6_bitCount_0f7a4 52 = .ok (.ireturn, 1) := by decide +kernel
theorem dJ6_bitCount_0f7a4_7 : decode cJ6_bitCount_0f7a4 7 = .ok (.iand, 1) := by decide +kernel
theorem dJ6_bitCount_0f7a4_8 : decode cJ6_bitCount_0f7a4 8 = .ok (.isub, 1) := by decide +kernel
theorem dJ6_bitCount_0f7a4_9 : decode cJ6_bitCount_0f7a4 9 = .ok (.istore_n 0, 1) := by decide +kernel
def vfJ6_bitCount_0f7a4 : List Cond := .code yJ6_bitCount_0f7a4 cJ6_bitCount_0f7a4 1 (some .int) :: ([.constant RJ6 265 (1431655765), .constant RJ6 266 (858993459), .constant RJ6 267 (252645135)])
set_option maxHeartbeats 2000000 in
set_option maxRecDepth 100000 in
theorem kfJ6_bitCount_0f7a4 (l : Launch) (dC : Nat → ClassId) (dI : Nat → Nat → Nat) (k0 : Int32) (sz : Nat) (out : Int32) (h : f_J6_bitCount_0f7a4 k0 = out) : Met l yJ6_bitCount_0f7a4 vfJ6_bitCount_0f7a4 ({ frames := 0, cells := 0, slots := 0, locals := 0 }) (PC (dC, dI) [.int k0] sz [] ([])) (va_Qi (S := Unit) (fun (r : Int32) _ => r = out) (fun _ t => BC (dC, dI) (va_A [] sz) [] [] t) (va_A [] sz)) 0 0 (va_A [] sz) := by
  refine va_MetF (cc := cJ6_bitCount_0f7a4) (maxL := 1) (ret := (some .int)) (by decide) rfl ?_
  intro p e s m args below meth c s₁ B0 hml hv
  obtain ⟨rfl, hsz, hP, hK, hD0, hN⟩ := hv
  have hx := B0.exec
  have hb := B0.bytes
  have hr := B0.returns
  have hts := atoms_spec (ws := vfJ6_bitCount_0f7a4) B0.pre
  have hown : s.vm.findClass RJ6 = some m.cls := findClass_of_methodNamed B0.named
  have hlocks := B0.notSynchronized
  subst hsz
  have hD := hD0.self (sz := s.heap.size)
  generalize hAe : va_A [] s.heap.size = A at hD ⊢
  have hA : ∀ q : Nat, s.heap.size ≤ q → A q := fun q h => by rw [← hAe]; exact Or.inr h
  have hS : va_S A s.heap s.heap [] := va_S.rf
  have hP : va_P (dC, dI) vwCl [] s.heap := hP
  have hl := lv_entry ([.int k0]) (n := 1) (Nat.le_of_ble_eq_true rfl)
  rw [lg_entry_eq]
  generalize (lg_sl ([.int k0]) ++ List.replicate (1 - (lg_sl ([.int k0])).length) Slot.unset).toArray = ls at hl ⊢
  have hl : lv_has ls 1 [(0, .int k0)] := hl
  refine W_q (fun QQ hQQ => ?_)
  rw [f_J6_bitCount_0f7a4] at h
  refine lv_iload_n hx hb dJ6_bitCount_0f7a4_0 rfl (lv_at hl 0 rfl) ?_
  refine lv_iload_n hx hb dJ6_bitCount_0f7a4_1 rfl (lv_at hl 0 rfl) ?_
  refine lv_iconst (v := 1) hx hb dJ6_bitCount_0f7a4_2 (by decide) ?_
  refine lv_iushr hx hb dJ6_bitCount_0f7a4_3 rfl ?_
  refine lv_topi (fun z3 ez3 => ?_)
  have h := nm_of h z3 ez3
  refine lv_ldcw hx hb hown (hts (.constant RJ6 265 (1431655765)) (List.mem_of_getElem? (i := 1) rfl)) dJ6_bitCount_0f7a4_4 ?_
  refine lv_iand hx hb dJ6_bitCount_0f7a4_7 ?_
  refine lv_isub hx hb dJ6_bitCount_0f7a4_8 ?_
  refine lv_istore_n (lv' := [(0, .int (k0 - (z3 &&& (1431655765 : Int32))))]) hx hb dJ6_bitCount_0f7a4_9 rfl hl (by decide) rfl (fun ls hl => ?_)
  refine lv_iload_n hx hb dJ6_bitCount_0f7a4_10 rfl (lv_at hl 0 rfl) ?_
  refine lv_ldcw hx hb hown (hts (.constant RJ6 266 (858993459)) (List.mem_of_getElem? (i := 2) rfl)) dJ6_bitCount_0f7a4_11 ?_
  refine lv_iand hx hb dJ6_bitCount_0f7a4_14 ?_
  refine lv_topi (fun z14 ez14 => ?_)
  have h := nm_of h z14 ez14
  refine lv_iload_n hx hb dJ6_bitCount_0f7a4_15 rfl (lv_at hl 0 rfl) ?_
  refine lv_iconst (v := 2) hx hb dJ6_bitCount_0f7a4_16 (by decide) ?_
  refine lv_iushr hx hb dJ6_bitCount_0f7a4_17 rfl ?_
  refine lv_topi (fun z17 ez17 => ?_)
  have h := nm_of h z17 ez17
  refine lv_ldcw hx hb hown (hts (.constant RJ6 266 (858993459)) (List.mem_of_getElem? (i := 2) rfl)) dJ6_bitCount_0f7a4_18 ?_
  refine lv_iand hx hb dJ6_bitCount_0f7a4_21 ?_
  refine lv_iadd hx hb dJ6_bitCount_0f7a4_22 ?_
  refine lv_istore_n (lv' := [(0, .int (z14 + (z17 &&& (858993459 : Int32))))]) hx hb dJ6_bitCount_0f7a4_23 rfl hl (by decide) rfl (fun ls hl => ?_)
  refine lv_iload_n hx hb dJ6_bitCount_0f7a4_24 rfl (lv_at hl 0 rfl) ?_
  refine lv_iload_n hx hb dJ6_bitCount_0f7a4_25 rfl (lv_at hl 0 rfl) ?_
  refine lv_iconst (v := 4) hx hb dJ6_bitCount_0f7a4_26 (by decide) ?_
  refine lv_iushr hx hb dJ6_bitCount_0f7a4_27 rfl ?_
  refine lv_topi (fun z27 ez27 => ?_)
  have h := nm_of h z27 ez27
  refine lv_iadd hx hb dJ6_bitCount_0f7a4_28 ?_
  refine lv_ldcw hx hb hown (hts (.constant RJ6 267 (252645135)) (List.mem_of_getElem? (i := 3) rfl)) dJ6_bitCount_0f7a4_29 ?_
  refine lv_iand hx hb dJ6_bitCount_0f7a4_32 ?_
  refine lv_topi (fun z32 ez32 => ?_)
  have h := nm_of h z32 ez32
  refine lv_istore_n (lv' := [(0, .int z32)]) hx hb dJ6_bitCount_0f7a4_33 rfl hl (by decide) rfl (fun ls hl => ?_)
  refine lv_iload_n hx hb dJ6_bitCount_0f7a4_34 rfl (lv_at hl 0 rfl) ?_
  refine lv_iload_n hx hb dJ6_bitCount_0f7a4_35 rfl (lv_at hl 0 rfl) ?_
  refine lv_bipush (v := 8) hx hb dJ6_bitCount_0f7a4_36 (by decide) ?_
  refine lv_iushr hx hb dJ6_bitCount_0f7a4_38 rfl ?_
  refine lv_topi (fun z38 ez38 => ?_)
  have h := nm_of h z38 ez38
  refine lv_iadd hx hb dJ6_bitCount_0f7a4_39 ?_
  refine lv_istore_n (lv' := [(0, .int (z32 + z38))]) hx hb dJ6_bitCount_0f7a4_40 rfl hl (by decide) rfl (fun ls hl => ?_)
  refine lv_iload_n hx hb dJ6_bitCount_0f7a4_41 rfl (lv_at hl 0 rfl) ?_
  refine lv_iload_n hx hb dJ6_bitCount_0f7a4_42 rfl (lv_at hl 0 rfl) ?_
  refine lv_bipush (v := 16) hx hb dJ6_bitCount_0f7a4_43 (by decide) ?_
  refine lv_iushr hx hb dJ6_bitCount_0f7a4_45 rfl ?_
  refine lv_topi (fun z45 ez45 => ?_)
  have h := nm_of h z45 ez45
  refine lv_iadd hx hb dJ6_bitCount_0f7a4_46 ?_
  refine lv_istore_n (lv' := [(0, .int ((z32 + z38) + z45))]) hx hb dJ6_bitCount_0f7a4_47 rfl hl (by decide) rfl (fun ls hl => ?_)
  refine lv_iload_n hx hb dJ6_bitCount_0f7a4_48 rfl (lv_at hl 0 rfl) ?_
  refine lv_bipush (v := 63) hx hb dJ6_bitCount_0f7a4_49 (by decide) ?_
  refine lv_iand hx hb dJ6_bitCount_0f7a4_51 ?_
  obtain rfl := h
  have hP9 := hP.sub (ws' := []) [] rfl
  have hD9 := hD.sub (ws' := []) [] (by decide) rfl
  have hK9 := hK.sub (tys' := []) [] rfl
  rw [hQQ]
  exact W.iret (v := (((z32 + z38) + z45) &&& (63 : Int32))) hx hb hr (fun t ht hW => ⟨⟨(((z32 + z38) + z45) &&& (63 : Int32)), (), rfl, rfl, by rw [ht]; exact hP9, va_K.moved hW.alike hK9, hD9⟩, hS.F ht⟩) hS.2.2 dJ6_bitCount_0f7a4_52
theorem dX10_mostSeated_0 : decode cX10_mostSeated 0 = .ok (.aload_n 0, 1) := by decide +kernel
theorem dX10_mostSeated_1 : decode cX10_mostSeated 1 = .ok (.aload_n 0, 1) := by decide +kernel
theorem dX10_mostSeated_11 : decode cX10_mostSeated 11 = .ok (.iconst (-1), 1) := by decide +kernel
theorem dX10_mostSeated_12 : decode cX10_mostSeated 12 = .ok (.ireturn, 1) := by decide +kernel
theorem dX10_mostSeated_13 : decode cX10_mostSeated 13 = .ok (.iconst 0, 1) := by decide +kernel
theorem dX10_mostSeated_14 : decode cX10_mostSeated 14 = .ok (.istore_n 1, 1) := by decide +kernel
theorem dX10_mostSeated_15 : decode cX10_mostSeated 15 = .ok (.iconst 1, 1) := by decide +kernel
theorem dX10_mostSeated_16 : decode cX10_mostSeated 16 = .ok (.istore_n 2, 1) := by decide +kernel
theorem dX10_mostSeated_17 : decode cX10_mostSeated 17 = .ok (.iload_n 2, 1) := by decide +kernel
theorem dX10_mostSeated_18 : decode cX10_mostSeated 18 = .ok (.aload_n 0, 1) := by decide +kernel
theorem dX10_mostSeated_19 : decode cX10_mostSeated 19 = .ok (.invokevirtual 249, 3) := by decide +kernel
theorem dX10_mostSeated_2 : decode cX10_mostSeated 2 = .ok (.invokevirtual 216, 3) := by decide +kernel
theorem dX10_mostSeated_22 : decode cX10_mostSeated 22 = .ok (.if_icmp .gt 38, 3) := by decide +kernel
theorem dX10_mostSeated_25 : decode cX10_mostSeated 25 = .ok (.iload_n 2, 1) := by decide +kernel
theorem dX10_mostSeated_26 : decode cX10_mostSeated 26 = .ok (.invokestatic 259, 3) := by decide +kernel
theorem dX10_mostSeated_29 : decode cX10_mostSeated 29 = .ok (.iload_n 1, 1) := by decide +kernel
theorem dX10_mostSeated_30 : decode cX10_mostSeated 30 = .ok (.invokestatic 259, 3) := by decide +kernel
theorem dX10_mostSeated_33 : decode cX10_mostSeated 33 = .ok (.if_icmp .le 21, 3) := by decide +kernel
theorem dX10_mostSeated_36 : decode cX10_mostSeated 36 = .ok (.aload_n 0, 1) := by decide +kernel
theorem dX10_mostSeated_37 : decode cX10_mostSeated 37 = .ok (.getfield 43, 3) := by decide +kernel
theorem dX10_mostSeated_40 : decode cX10_mostSeated 40 = .ok (.aload_n 0, 1) := by decide +kernel
theorem dX10_mostSeated_41 : decode cX10_mostSeated 41 = .ok (.getfield 10, 3) := by decide +kernel
theorem dX10_mostSeated_44 : decode cX10_mostSeated 44 = .ok (.iload_n 2, 1) := by decide +kernel
theorem dX10_mostSeated_45 : decode cX10_mostSeated 45 = .ok (.iconst 1, 1) := by decide +kernel
theorem dX10_mostSeated_46 : decode cX10_mostSeated 46 = .ok (.invokevirtual 252, 3) := by decide +kernel
theorem dX10_mostSeated_49 : decode cX10_mostSeated 49 = .ok (.ifCond .le 5, 3) := by decide +kernel
theorem dX10_mostSeated_5 : decode cX10_mostSeated 5 = .ok (.invokevirtual 79, 3) := by decide +kernel
theorem dX10_mostSeated_52 : decode cX10_mostSeated 52 = .ok (.iload_n 2, 1) := by decide +kernel
theorem dX10_mostSeated_53 : decode cX10_mostSeated 53 = .ok (.istore_n 1, 1) := by decide +kernel
theorem dX10_mostSeated_54 : decode cX10_mostSeated 54 = .ok (.iinc 2 1, 3) := by decide +kernel
theorem dX10_mostSeated_57 : decode cX10_mostSeated 57 = .ok (.goto (-40), 3) := by decide +kernel
theorem dX10_mostSeated_60 : decode cX10_mostSeated 60 = .ok (.iload_n 1, 1) := by decide +kernel
theorem dX10_mostSeated_61 : decode cX10_mostSeated 61 = .ok (.ireturn, 1) := by decide +kernel
theorem dX10_mostSeated_8 : decode cX10_mostSeated 8 = .ok (.ifCond .eq 5, 3) := by decide +kernel
def vfX10_mostSeated : List Cond := .code yX10_mostSeated cX10_mostSeated 3 (some .int) :: ([.methodLink RX10 216 yX10_pierTrouble, .instanceMethod yX10_pierTrouble, .selects RX10 yX10_pierTrouble yX10_pierTrouble, .initialized RX10, .code yX10_pierTrouble cX10_pierTrouble 1 (some .int), .fieldLink RX10 10 "HookPier" "plan" "LHookPier$Plan;", .fieldLink RX10 233 "HookPier$Plan" "spots" "I", .methodLink RX10 79 yX10_refused, .instanceMethod yX10_refused, .selects RX10 yX10_refused yX10_refused, .code yX10_refused cX10_refused 2 (some .boolean), .fieldLink RX10 61 "HookPier" "troubleNow" "I", .methodLink RX10 249 yX10_everyAsker, .instanceMethod yX10_everyAsker, .selects RX10 yX10_everyAsker yX10_everyAsker, .code yX10_everyAsker cX10_everyAsker 1 (some .int), .fieldLink RX10 246 "HookPier$Plan" "askers" "I", .methodLink RX10 259 yJ6_bitCount_0f7a4, .static yJ6_bitCount_0f7a4, .initialized RJ6, .code yJ6_bitCount_0f7a4 cJ6_bitCount_0f7a4 1 (some .int), .constant RJ6 265 (1431655765), .constant RJ6 266 (858993459), .constant RJ6 267 (252645135), .fieldLink RX10 43 "HookPier" "seats" "LHookPier$Seats;", .methodLink RX10 252 yX8_countRows, .instanceMethod yX8_countRows, .selects RX8 yX8_countRows yX8_countRows, .initialized RX8, .code yX8_countRows cX8_countRows 4 (some .int), .fieldLink RX8 18 "HookPier$Seats" "found" "I", .methodLink RX8 22 yX8_fill, .instanceMethod yX8_fill, .selects RX8 yX8_fill yX8_fill, .code yX8_fill cX8_fill 6 none, .fieldLink RX8 26 "HookPier$Plan" "askers" "I", .methodLink RX8 31 yX8_keepRow, .instanceMethod yX8_keepRow, .selects RX8 yX8_keepRow yX8_keepRow, .code yX8_keepRow cX8_keepRow 1 none, .fieldLink RX8 9 "HookPier$Seats" "row" "[I", .fieldLink RX8 15 "HookPier$Seats" "first" "[I", .methodLink RX8 41 arraycopyName, .native arraycopyName, .static arraycopyName, .initialized "java/lang/System", .fieldLink RX8 34 "HookPier$Plan" "spots" "I", .methodLink RX8 37 yX8_isFree, .instanceMethod yX8_isFree, .selects RX8 yX8_isFree yX8_isFree, .code yX8_isFree cX8_isFree 5 (some .boolean), .methodLink RX8 47 yX6_isTangle, .instanceMethod yX6_isTangle, .selects RX6 yX6_isTangle yX6_isTangle, .initialized RX6, .code yX6_isTangle cX6_isTangle 5 (some .boolean), .methodLink RX6 89 Lib.Math.abs.name, .static Lib.Math.abs.name, .initialized "java/lang/Math", .code Lib.Math.abs.name Lib.Math.abs.code 1 (some .int), .fieldLink RX6 39 "HookPier$Plan" "reach" "[I"] ++ wsX100 ++ wsX60 ++ wsX80)
theorem ifX10_mostSeated_X10 : ∀ w ∈ wsX100, w ∈ vfX10_mostSeated := fun _ h => List.mem_cons_of_mem _ (List.mem_append_left _ (List.mem_append_left _ (List.mem_append_right _ h)))
theorem ifX10_mostSeated_X6 : ∀ w ∈ wsX60, w ∈ vfX10_mostSeated := fun _ h => List.mem_cons_of_mem _ (List.mem_append_left _ (List.mem_append_right _ h))
theorem ifX10_mostSeated_X8 : ∀ w ∈ wsX80, w ∈ vfX10_mostSeated := fun _ h => List.mem_cons_of_mem _ (List.mem_append_right _ h)
set_option maxRecDepth 20000 in
theorem gfX10_mostSeated_0 : GoodIn vfX10_mostSeated (wsV RX10 216 RX10 yX10_pierTrouble vfX10_pierTrouble) := goodIn_app (goodIn_r [.methodLink RX10 216 yX10_pierTrouble, .instanceMethod yX10_pierTrouble, .selects RX10 yX10_pierTrouble yX10_pierTrouble, .initialized RX10] [1, 2, 3, 4] (by decide +kernel) (by decide +kernel)) (goodIn_ca (goodIn_ca (goodIn_r (.code yX10_pierTrouble cX10_pierTrouble 1 (some .int) :: [.fieldLink RX10 10 "HookPier" "plan" "LHookPier$Plan;", .fieldLink RX10 233 "HookPier$Plan" "spots" "I"]) [5, 6, 7] (by decide +kernel) (by decide +kernel) : GoodIn vfX10_mostSeated (.code yX10_pierTrouble cX10_pierTrouble 1 (some .int) :: [.fieldLink RX10 10 "HookPier" "plan" "LHookPier$Plan;", .fieldLink RX10 233 "HookPier$Plan" "spots" "I"])) (goodIn_sub ifX10_mostSeated_X10 (by decide +kernel))) (goodIn_sub ifX10_mostSeated_X6 (by decide +kernel)))
set_option maxRecDepth 20000 in
theorem gfX10_mostSeated_1 : GoodIn vfX10_mostSeated (wsV RX10 79 RX10 yX10_refused vfX10_refused) := goodIn_app (goodIn_r [.methodLink RX10 79 yX10_refused, .instanceMethod yX10_refused, .selects RX10 yX10_refused yX10_refused, .initialized RX10] [8, 9, 10, 4] (by decide +kernel) (by decide +kernel)) (goodIn_ca (goodIn_r (.code yX10_refused cX10_refused 2 (some .boolean) :: [.fieldLink RX10 61 "HookPier" "troubleNow" "I"]) [11, 12] (by decide +kernel) (by decide +kernel) : GoodIn vfX10_mostSeated (.code yX10_refused cX10_refused 2 (some .boolean) :: [.fieldLink RX10 61 "HookPier" "troubleNow" "I"])) (goodIn_sub ifX10_mostSeated_X10 (by decide +kernel)))
set_option maxRecDepth 20000 in
theorem gfX10_mostSeated_2 : GoodIn vfX10_mostSeated (wsV RX10 249 RX10 yX10_everyAsker vfX10_everyAsker) := goodIn_app (goodIn_r [.methodLink RX10 249 yX10_everyAsker, .instanceMethod yX10_everyAsker, .selects RX10 yX10_everyAsker yX10_everyAsker, .initialized RX10] [13, 14, 15, 4] (by decide +kernel) (by decide +kernel)) (goodIn_ca (goodIn_ca (goodIn_r (.code yX10_everyAsker cX10_everyAsker 1 (some .int) :: [.fieldLink RX10 10 "HookPier" "plan" "LHookPier$Plan;", .fieldLink RX10 246 "HookPier$Plan" "askers" "I"]) [16, 6, 17] (by decide +kernel) (by decide +kernel) : GoodIn vfX10_mostSeated (.code yX10_everyAsker cX10_everyAsker 1 (some .int) :: [.fieldLink RX10 10 "HookPier" "plan" "LHookPier$Plan;", .fieldLink RX10 246 "HookPier$Plan" "askers" "I"])) (goodIn_sub ifX10_mostSeated_X10 (by decide +kernel))) (goodIn_sub ifX10_mostSeated_X6 (by decide +kernel)))
set_option maxRecDepth 20000 in
theorem gfX10_mostSeated_3 : GoodIn vfX10_mostSeated (va_wsS RX10 259 yJ6_bitCount_0f7a4 vfJ6_bitCount_0f7a4) := goodIn_app (goodIn_r [.methodLink RX10 259 yJ6_bitCount_0f7a4, .static yJ6_bitCount_0f7a4, .initialized RJ6] [18, 19, 20] (by decide +kernel) (by decide +kernel)) (goodIn_r (.code yJ6_bitCount_0f7a4 cJ6_bitCount_0f7a4 1 (some .int) :: [.constant RJ6 265 (1431655765), .constant RJ6 266 (858993459), .constant RJ6 267 (252645135)]) [21, 22, 23, 24] (by decide +kernel) (by decide +kernel) : GoodIn vfX10_mostSeated (.code yJ6_bitCount_0f7a4 cJ6_bitCount_0f7a4 1 (some .int) :: [.constant RJ6 265 (1431655765), .constant RJ6 266 (858993459), .constant RJ6 267 (252645135)]))
set_option maxRecDepth 20000 in
theorem gfX10_mostSeated_4 : GoodIn vfX10_mostSeated (wsV RX10 252 RX8 yX8_countRows vfX8_countRows) := goodIn_app (goodIn_r [.methodLink RX10 252 yX8_countRows, .instanceMethod yX8_countRows, .selects RX8 yX8_countRows yX8_countRows, .initialized RX8] [26, 27, 28, 29] (by decide +kernel) (by decide +kernel)) (goodIn_ca (goodIn_ca (goodIn_r (.code yX8_countRows cX8_countRows 4 (some .int) :: [.fieldLink RX8 18 "HookPier$Seats" "found" "I", .methodLink RX8 22 yX8_fill, .instanceMethod yX8_fill, .selects RX8 yX8_fill yX8_fill, .initialized RX8, .code yX8_fill cX8_fill 6 none, .fieldLink RX8 26 "HookPier$Plan" "askers" "I", .methodLink RX8 31 yX8_keepRow, .instanceMethod yX8_keepRow, .selects RX8 yX8_keepRow yX8_keepRow, .code yX8_keepRow cX8_keepRow 1 none, .fieldLink RX8 9 "HookPier$Seats" "row" "[I", .fieldLink RX8 15 "HookPier$Seats" "first" "[I", .methodLink RX8 41 arraycopyName, .native arraycopyName, .static arraycopyName, .initialized "java/lang/System", .fieldLink RX8 34 "HookPier$Plan" "spots" "I", .methodLink RX8 37 yX8_isFree, .instanceMethod yX8_isFree, .selects RX8 yX8_isFree yX8_isFree, .code yX8_isFree cX8_isFree 5 (some .boolean), .methodLink RX8 47 yX6_isTangle, .instanceMethod yX6_isTangle, .selects RX6 yX6_isTangle yX6_isTangle, .initialized RX6, .code yX6_isTangle cX6_isTangle 5 (some .boolean), .methodLink RX6 89 Lib.Math.abs.name, .static Lib.Math.abs.name, .initialized "java/lang/Math", .code Lib.Math.abs.name Lib.Math.abs.code 1 (some .int), .fieldLink RX6 39 "HookPier$Plan" "reach" "[I"]) [30, 31, 32, 33, 34, 29, 35, 36, 37, 38, 39, 40, 41, 42, 43, 44, 45, 46, 47, 48, 49, 50, 51, 52, 53, 54, 55, 56, 57, 58, 59, 60, 61] (by decide +kernel) (by decide +kernel) : GoodIn vfX10_mostSeated (.code yX8_countRows cX8_countRows 4 (some .int) :: [.fieldLink RX8 18 "HookPier$Seats" "found" "I", .methodLink RX8 22 yX8_fill, .instanceMethod yX8_fill, .selects RX8 yX8_fill yX8_fill, .initialized RX8, .code yX8_fill cX8_fill 6 none, .fieldLink RX8 26 "HookPier$Plan" "askers" "I", .methodLink RX8 31 yX8_keepRow, .instanceMethod yX8_keepRow, .selects RX8 yX8_keepRow yX8_keepRow, .code yX8_keepRow cX8_keepRow 1 none, .fieldLink RX8 9 "HookPier$Seats" "row" "[I", .fieldLink RX8 15 "HookPier$Seats" "first" "[I", .methodLink RX8 41 arraycopyName, .native arraycopyName, .static arraycopyName, .initialized "java/lang/System", .fieldLink RX8 34 "HookPier$Plan" "spots" "I", .methodLink RX8 37 yX8_isFree, .instanceMethod yX8_isFree, .selects RX8 yX8_isFree yX8_isFree, .code yX8_isFree cX8_isFree 5 (some .boolean), .methodLink RX8 47 yX6_isTangle, .instanceMethod yX6_isTangle, .selects RX6 yX6_isTangle yX6_isTangle, .initialized RX6, .code yX6_isTangle cX6_isTangle 5 (some .boolean), .methodLink RX6 89 Lib.Math.abs.name, .static Lib.Math.abs.name, .initialized "java/lang/Math", .code Lib.Math.abs.name Lib.Math.abs.code 1 (some .int), .fieldLink RX6 39 "HookPier$Plan" "reach" "[I"])) (goodIn_sub ifX10_mostSeated_X8 (by decide +kernel))) (goodIn_sub ifX10_mostSeated_X6 (by decide +kernel)))
set_option maxHeartbeats 2000000 in
set_option maxRecDepth 100000 in
theorem kfX10_mostSeated (l : Launch) (dC : Nat → ClassId) (dI : Nat → Nat → Nat) (a0 : Nat) (a1 : Nat) (a2 : Nat) (up : Nat → Nat) (kp : Nat → ClassId) (us : Nat → Nat) (ks : Nat → ClassId) (x_x : TX10_x) (g8 : Value) (g9 : Value) (g10 : Value) (g11 : Value) (g12 : Value) (g13 : Value) (p_p : TX6_p) (s_s : TX8_s) (sz : Nat) (out : (Int32 × TX10_x × TX8_s)) (h : f_X10_mostSeated x_x p_p s_s = some out) : Met l yX10_mostSeated vfX10_mostSeated ({ frames := 9, cells := 0, slots := 0, locals := 233 }) (PC (dC, dI) [.ref a0] sz ((a0, .inr (7, [.ref a1, g8, g9, g10, g11, .ref a2, g12, g13, .int x_x.1, .int x_x.2])) :: bX6 a1 up kp p_p (bX8 a2 us ks s_s [])) (tX6 kp (tX8 ks ([])))) (va_Qi (S := Unit) (fun (r : Int32) _ => r = out.1) (fun _ t => BC (dC, dI) (va_A ((a0, .inr (7, [.ref a1, g8, g9, g10, g11, .ref a2, g12, g13, .int x_x.1, .int x_x.2])) :: bX6 a1 up kp p_p (bX8 a2 us ks s_s [])) sz) ((a0, .inr (7, [.ref a1, g8, g9, g10, g11, .ref a2, g12, g13, .int out.2.1.1, .int out.2.1.2])) :: bX6 a1 up kp p_p (bX8 a2 us ks out.2.2 [])) [] t) (va_A ((a0, .inr (7, [.ref a1, g8, g9, g10, g11, .ref a2, g12, g13, .int x_x.1, .int x_x.2])) :: bX6 a1 up kp p_p (bX8 a2 us ks s_s [])) sz)) 0 0 (va_A ((a0, .inr (7, [.ref a1, g8, g9, g10, g11, .ref a2, g12, g13, .int x_x.1, .int x_x.2])) :: bX6 a1 up kp p_p (bX8 a2 us ks s_s [])) sz) := by
  refine Met.ofW (cc := cX10_mostSeated) (maxL := 3) (ret := (some .int)) (by decide) rfl ?_
  intro p e s m args below meth c s₁ B0 hml hv
  obtain ⟨rfl, hsz, hP, hK, hD0, hN⟩ := hv
  have hx := B0.exec
  have hb := B0.bytes
  have hr := B0.returns
  have hts := atoms_spec (ws := vfX10_mostSeated) B0.pre
  have hown : s.vm.findClass RX10 = some m.cls := findClass_of_methodNamed B0.named
  have hlocks := B0.notSynchronized
  subst hsz
  have hD := hD0.self (sz := s.heap.size)
  generalize hAe : va_A ((a0, .inr (7, [.ref a1, g8, g9, g10, g11, .ref a2, g12, g13, .int x_x.1, .int x_x.2])) :: bX6 a1 up kp p_p (bX8 a2 us ks s_s [])) s.heap.size = A at hD ⊢
  have hA : ∀ q : Nat, s.heap.size ≤ q → A q := fun q h => by rw [← hAe]; exact Or.inr h
  have hS : va_S A s.heap s.heap [] := va_S.rf
  have hP : va_P (dC, dI) vwCl ((a0, .inr (7, [.ref a1, g8, g9, g10, g11, .ref a2, g12, g13, .int x_x.1, .int x_x.2])) :: bX6 a1 up kp p_p (bX8 a2 us ks s_s [])) s.heap := hP
  have hl := lv_entry ([.ref a0]) (n := 3) (Nat.le_of_ble_eq_true rfl)
  rw [lg_entry_eq]
  generalize (lg_sl ([.ref a0]) ++ List.replicate (3 - (lg_sl ([.ref a0])).length) Slot.unset).toArray = ls at hl ⊢
  have hl : lv_has ls 3 [(0, .ref a0)] := hl
  refine W_q (fun QQ hQQ => ?_)
  rw [f_X10_mostSeated] at h
  refine lv_aload_n hx hb dX10_mostSeated_0 rfl (lv_at hl 0 rfl) ?_
  refine lv_aload_n hx hb dX10_mostSeated_1 rfl (lv_at hl 0 rfl) ?_
  obtain ⟨o2, eo2⟩ : ∃ o, o = f_X10_pierTrouble p_p := ⟨_, rfl⟩
  have h := nm_of h o2 eo2
  refine cl_i (wc := ((a0, .inr (7, [.ref a1, g8, g9, g10, g11, .ref a2, g12, g13, .int x_x.1, .int x_x.2])) :: bX6 a1 up kp p_p [])) (wr := (bX8 a2 us ks s_s [])) (va_runV (As := []) (rest := [.ref a0]) ⟨hx, hb, hml, hown, hts⟩ (kfX10_pierTrouble l dC dI a0 a1 up kp (g8) (g9) (g10) (g11) (.ref a2) (g12) (g13) (.int x_x.1) (.int x_x.2) p_p s.heap.size o2 eo2.symm) (cwV 0 hts gfX10_mostSeated_0 rfl rfl rfl (by decide +kernel) ⟨(Nat.le_of_ble_eq_true rfl), (Nat.le_of_ble_eq_true rfl)⟩) (PV (hP.sub (ws' := ((a0, .inr (7, [.ref a1, g8, g9, g10, g11, .ref a2, g12, g13, .int x_x.1, .int x_x.2])) :: bX6 a1 up kp p_p [])) [0, 1, 2, 3, 4, 5, 6, 7, 8, 9, 10] rfl) (hK.sub (tys' := (tX6 kp ([]))) [0, 1, 2, 3, 4, 5, 6, 7, 8] rfl) (hD.sub (ws' := ((a0, .inr (7, [.ref a1, g8, g9, g10, g11, .ref a2, g12, g13, .int x_x.1, .int x_x.2])) :: bX6 a1 up kp p_p [])) [0, 1, 2, 3, 4, 5, 6, 7, 8, 9, 10] (by decide) rfl) hN 0 rfl rfl) rfl rfl hl.1 rfl (lv_room (Nat.le_of_ble_eq_true rfl)) dX10_mostSeated_2 ⟨(Nat.le_of_ble_eq_true rfl), (Nat.le_of_ble_eq_true rfl)⟩) hP hD hK hS hA [0, 1, 2, 3, 4, 5, 6, 7, 8, 9, 10] [11, 12, 13] rfl rfl (by decide) (by decide) (fun r2 _ H locs hw hP hD _ hS => ?_)
  obtain rfl := hw.symm
  have hP : va_P (dC, dI) vwCl (bX8 a2 us ks s_s ((a0, .inr (7, [.ref a1, g8, g9, g10, g11, .ref a2, g12, g13, .int x_x.1, .int x_x.2])) :: bX6 a1 up kp p_p [])) H := hP
  have hD : va_D A (bX8 a2 us ks s_s ((a0, .inr (7, [.ref a1, g8, g9, g10, g11, .ref a2, g12, g13, .int x_x.1, .int x_x.2])) :: bX6 a1 up kp p_p [])) := hD
  obtain ⟨o5, eo5⟩ : ∃ o, o = f_X10_refused o2 x_x := ⟨_, rfl⟩
  have h := nm_of h o5 eo5
  refine cl_i (wc := ([(a0, .inr (7, [.ref a1, g8, g9, g10, g11, .ref a2, g12, g13, .int x_x.1, .int x_x.2]))])) (wr := (bX8 a2 us ks s_s (bX6 a1 up kp p_p []))) (va_runV (As := [.int o2]) (rest := []) ⟨hx, hb, hml, hown, hts⟩ (kfX10_refused l dC dI a0 o2 x_x (.ref a1) (g8) (g9) (g10) (g11) (.ref a2) (g12) (g13) H.size o5 eo5.symm) (cwV 1 hts gfX10_mostSeated_1 rfl rfl rfl (by decide +kernel) ⟨(Nat.le_of_ble_eq_true rfl), (Nat.le_of_ble_eq_true rfl)⟩) (PV (hP.sub (ws' := ([(a0, .inr (7, [.ref a1, g8, g9, g10, g11, .ref a2, g12, g13, .int x_x.1, .int x_x.2]))])) [3] rfl) (hK.sub (tys' := ([])) [] rfl) (hD.sub (ws' := ([(a0, .inr (7, [.ref a1, g8, g9, g10, g11, .ref a2, g12, g13, .int x_x.1, .int x_x.2]))])) [3] (by decide) rfl) hN 0 rfl rfl) rfl rfl hl.1 rfl (lv_room (Nat.le_of_ble_eq_true rfl)) dX10_mostSeated_5 ⟨(Nat.le_of_ble_eq_true rfl), (Nat.le_of_ble_eq_true rfl)⟩) hP hD hK hS hA [3] [0, 1, 2, 4, 5, 6, 7, 8, 9, 10, 11, 12, 13] rfl rfl (by decide) (by decide) (fun r5 _ H locs hw hP hD _ hS => ?_)
  obtain ⟨hw, br5⟩ := hw
  obtain rfl := hw
  have hP : va_P (dC, dI) vwCl (bX8 a2 us ks s_s (bX6 a1 up kp p_p ([(a0, .inr (7, [.ref a1, g8, g9, g10, g11, .ref a2, g12, g13, .int o5.2.1, .int o5.2.2]))]))) H := hP
  have hD : va_D A (bX8 a2 us ks s_s (bX6 a1 up kp p_p ([(a0, .inr (7, [.ref a1, g8, g9, g10, g11, .ref a2, g12, g13, .int o5.2.1, .int o5.2.2]))]))) := hD
  refine lv_if_eq (tgt := 13) hx hb dX10_mostSeated_8 (by decide) (fun c8 => ?_) (fun c8 => ?_)
  · have h := (if_pos c8).symm.trans h
    refine lv_iconst (v := 0) hx hb dX10_mostSeated_13 (by decide) ?_
    refine lv_istore_n (lv' := [(1, .int 0), (0, .ref a0)]) hx hb dX10_mostSeated_14 rfl hl (by decide) rfl (fun ls hl => ?_)
    refine lv_iconst (v := 1) hx hb dX10_mostSeated_15 (by decide) ?_
    refine lv_istore_n (lv' := [(2, .int 1), (1, .int 0), (0, .ref a0)]) hx hb dX10_mostSeated_16 rfl hl (by decide) rfl (fun ls hl => ?_)
    have L17 : ∀ (n17 : Nat) (v17_l2 : Int32) (v17_l1 : Int32) (v17_s_s : TX8_s) (H : Heap) (locs : List Loc) (ls : Array Slot), f_X10_mostSeated_L17 p_p o5 n17 v17_l2 v17_l1 v17_s_s = some out → va_P (dC, dI) vwCl (bX8 a2 us ks v17_s_s (bX6 a1 up kp p_p ([(a0, .inr (7, [.ref a1, g8, g9, g10, g11, .ref a2, g12, g13, .int o5.2.1, .int o5.2.2]))]))) H → va_D A (bX8 a2 us ks v17_s_s (bX6 a1 up kp p_p ([(a0, .inr (7, [.ref a1, g8, g9, g10, g11, .ref a2, g12, g13, .int o5.2.1, .int o5.2.2]))]))) → va_S A s.heap H locs → lv_has ls 3 [(2, .int v17_l2), (1, .int v17_l1), (0, .ref a0)] → W p l e (headSpec vfX10_mostSeated { frames := 9, cells := 0, slots := 0, locals := 233 }).room s m ([.ref a0]).toArray below meth c H locs 0 0 QQ (F0 m 17 ls []) := by
      intro n17
      induction n17 with
      | zero =>
        intro v17_l2 v17_l1 v17_s_s H locs ls h  _ _ _ _
        rw [f_X10_mostSeated_L17] at h
        cases h
      | succ n17 ih17 =>
        intro v17_l2 v17_l1 v17_s_s H locs ls h  hP hD hS hl
        rw [f_X10_mostSeated_L17] at h
        refine lv_iload_n hx hb dX10_mostSeated_17 rfl (lv_at hl 0 rfl) ?_
        refine lv_aload_n hx hb dX10_mostSeated_18 rfl (lv_at hl 2 rfl) ?_
        obtain ⟨o19, eo19⟩ : ∃ o, o = f_X10_everyAsker p_p := ⟨_, rfl⟩
        have h := nm_of h o19 eo19
        refine cl_i (wc := ((a0, .inr (7, [.ref a1, g8, g9, g10, g11, .ref a2, g12, g13, .int o5.2.1, .int o5.2.2])) :: bX6 a1 up kp p_p [])) (wr := (bX8 a2 us ks v17_s_s [])) (va_runV (As := []) (rest := [.int v17_l2]) ⟨hx, hb, hml, hown, hts⟩ (kfX10_everyAsker l dC dI a0 a1 up kp (g8) (g9) (g10) (g11) (.ref a2) (g12) (g13) (.int o5.2.1) (.int o5.2.2) p_p H.size o19 eo19.symm) (cwV 0 hts gfX10_mostSeated_2 rfl rfl rfl (by decide +kernel) ⟨(Nat.le_of_ble_eq_true rfl), (Nat.le_of_ble_eq_true rfl)⟩) (PV (hP.sub (ws' := ((a0, .inr (7, [.ref a1, g8, g9, g10, g11, .ref a2, g12, g13, .int o5.2.1, .int o5.2.2])) :: bX6 a1 up kp p_p [])) [13, 3, 4, 5, 6, 7, 8, 9, 10, 11, 12] rfl) (hK.sub (tys' := (tX6 kp ([]))) [0, 1, 2, 3, 4, 5, 6, 7, 8] rfl) (hD.sub (ws' := ((a0, .inr (7, [.ref a1, g8, g9, g10, g11, .ref a2, g12, g13, .int o5.2.1, .int o5.2.2])) :: bX6 a1 up kp p_p [])) [13, 3, 4, 5, 6, 7, 8, 9, 10, 11, 12] (by decide) rfl) hN 0 rfl rfl) rfl rfl hl.1 rfl (lv_room (Nat.le_of_ble_eq_true rfl)) dX10_mostSeated_19 ⟨(Nat.le_of_ble_eq_true rfl), (Nat.le_of_ble_eq_true rfl)⟩) hP hD hK hS hA [13, 3, 4, 5, 6, 7, 8, 9, 10, 11, 12] [0, 1, 2] rfl rfl (by decide) (by decide) (fun r19 _ H locs hw hP hD _ hS => ?_)
        obtain rfl := hw.symm
        have hP : va_P (dC, dI) vwCl (bX8 a2 us ks v17_s_s ((a0, .inr (7, [.ref a1, g8, g9, g10, g11, .ref a2, g12, g13, .int o5.2.1, .int o5.2.2])) :: bX6 a1 up kp p_p [])) H := hP
        have hD : va_D A (bX8 a2 us ks v17_s_s ((a0, .inr (7, [.ref a1, g8, g9, g10, g11, .ref a2, g12, g13, .int o5.2.1, .int o5.2.2])) :: bX6 a1 up kp p_p [])) := hD
        refine lv_icmp_gt (tgt := 60) hx hb dX10_mostSeated_22 (by decide) (fun c22 => ?_) (fun c22 => ?_)
        · have h := (if_pos c22).symm.trans h
          refine lv_iload_n hx hb dX10_mostSeated_60 rfl (lv_at hl 1 rfl) ?_
          obtain rfl := Option.some.inj h
          have hP9 := hP.sub (ws' := ((a0, .inr (7, [.ref a1, g8, g9, g10, g11, .ref a2, g12, g13, .int o5.2.1, .int o5.2.2])) :: bX6 a1 up kp p_p (bX8 a2 us ks v17_s_s []))) [3, 4, 5, 6, 7, 8, 9, 10, 11, 12, 13, 0, 1, 2] rfl
          have hD9 := hD.sub (ws' := ((a0, .inr (7, [.ref a1, g8, g9, g10, g11, .ref a2, g12, g13, .int o5.2.1, .int o5.2.2])) :: bX6 a1 up kp p_p (bX8 a2 us ks v17_s_s []))) [3, 4, 5, 6, 7, 8, 9, 10, 11, 12, 13, 0, 1, 2] (by decide) rfl
          have hK9 := hK.sub (tys' := []) [] rfl
          rw [hQQ]
          exact W.iret (v := v17_l1) hx hb hr (fun t ht hW => ⟨⟨v17_l1, (), rfl, rfl, by rw [ht]; exact hP9, va_K.moved hW.alike hK9, hD9⟩, hS.F ht⟩) hS.2.2 dX10_mostSeated_61
        · have h := (if_neg c22).symm.trans h
          refine lv_iload_n hx hb dX10_mostSeated_25 rfl (lv_at hl 0 rfl) ?_
          obtain ⟨o26, eo26⟩ : ∃ o, o = f_J6_bitCount_0f7a4 v17_l2 := ⟨_, rfl⟩
          have h := nm_of h o26 eo26
          refine cl_i (wc := []) (wr := (bX8 a2 us ks v17_s_s ((a0, .inr (7, [.ref a1, g8, g9, g10, g11, .ref a2, g12, g13, .int o5.2.1, .int o5.2.2])) :: bX6 a1 up kp p_p []))) (va_runS (As := [.int v17_l2]) (rest := []) ⟨hx, hb, hml, hown, hts⟩ (kfJ6_bitCount_0f7a4 l dC dI v17_l2 H.size o26 eo26.symm) (va_cwS 1 hts gfX10_mostSeated_3 rfl rfl rfl (by decide +kernel) ⟨(Nat.le_of_ble_eq_true rfl), (Nat.le_of_ble_eq_true rfl)⟩) (PS (hP.sub (ws' := []) [] rfl) (hK.sub (tys' := ([])) [] rfl) (hD.sub (ws' := []) [] (by decide) rfl) hN) rfl rfl hl.1 rfl (lv_room (Nat.le_of_ble_eq_true rfl)) dX10_mostSeated_26 ⟨(Nat.le_of_ble_eq_true rfl), (Nat.le_of_ble_eq_true rfl)⟩) hP hD hK hS hA [] [0, 1, 2, 3, 4, 5, 6, 7, 8, 9, 10, 11, 12, 13] rfl rfl (by decide) (by decide) (fun r26 _ H locs hw hP hD _ hS => ?_)
          obtain rfl := hw.symm
          have hP : va_P (dC, dI) vwCl (bX8 a2 us ks v17_s_s ((a0, .inr (7, [.ref a1, g8, g9, g10, g11, .ref a2, g12, g13, .int o5.2.1, .int o5.2.2])) :: bX6 a1 up kp p_p [])) H := hP
          have hD : va_D A (bX8 a2 us ks v17_s_s ((a0, .inr (7, [.ref a1, g8, g9, g10, g11, .ref a2, g12, g13, .int o5.2.1, .int o5.2.2])) :: bX6 a1 up kp p_p [])) := hD
          refine lv_iload_n hx hb dX10_mostSeated_29 rfl (lv_at hl 1 rfl) ?_
          obtain ⟨o30, eo30⟩ : ∃ o, o = f_J6_bitCount_0f7a4 v17_l1 := ⟨_, rfl⟩
          have h := nm_of h o30 eo30
          refine cl_i (wc := []) (wr := (bX8 a2 us ks v17_s_s ((a0, .inr (7, [.ref a1, g8, g9, g10, g11, .ref a2, g12, g13, .int o5.2.1, .int o5.2.2])) :: bX6 a1 up kp p_p []))) (va_runS (As := [.int v17_l1]) (rest := [.int o26]) ⟨hx, hb, hml, hown, hts⟩ (kfJ6_bitCount_0f7a4 l dC dI v17_l1 H.size o30 eo30.symm) (va_cwS 1 hts gfX10_mostSeated_3 rfl rfl rfl (by decide +kernel) ⟨(Nat.le_of_ble_eq_true rfl), (Nat.le_of_ble_eq_true rfl)⟩) (PS (hP.sub (ws' := []) [] rfl) (hK.sub (tys' := ([])) [] rfl) (hD.sub (ws' := []) [] (by decide) rfl) hN) rfl rfl hl.1 rfl (lv_room (Nat.le_of_ble_eq_true rfl)) dX10_mostSeated_30 ⟨(Nat.le_of_ble_eq_true rfl), (Nat.le_of_ble_eq_true rfl)⟩) hP hD hK hS hA [] [0, 1, 2, 3, 4, 5, 6, 7, 8, 9, 10, 11, 12, 13] rfl rfl (by decide) (by decide) (fun r30 _ H locs hw hP hD _ hS => ?_)
          obtain rfl := hw.symm
          have hP : va_P (dC, dI) vwCl (bX8 a2 us ks v17_s_s ((a0, .inr (7, [.ref a1, g8, g9, g10, g11, .ref a2, g12, g13, .int o5.2.1, .int o5.2.2])) :: bX6 a1 up kp p_p [])) H := hP
          have hD : va_D A (bX8 a2 us ks v17_s_s ((a0, .inr (7, [.ref a1, g8, g9, g10, g11, .ref a2, g12, g13, .int o5.2.1, .int o5.2.2])) :: bX6 a1 up kp p_p [])) := hD
          have J54 : ∀ (v54_s_s : TX8_s) (v54_l1 : Int32) (H : Heap) (locs : List Loc) (ls : Array Slot), f_X10_mostSeated_J54 (f_X10_mostSeated_L17 p_p o5 n17) v17_l2 v54_s_s v54_l1 = some out → va_P (dC, dI) vwCl (bX8 a2 us ks v54_s_s ((a0, .inr (7, [.ref a1, g8, g9, g10, g11, .ref a2, g12, g13, .int o5.2.1, .int o5.2.2])) :: bX6 a1 up kp p_p [])) H → va_D A (bX8 a2 us ks v54_s_s ((a0, .inr (7, [.ref a1, g8, g9, g10, g11, .ref a2, g12, g13, .int o5.2.1, .int o5.2.2])) :: bX6 a1 up kp p_p [])) → va_S A s.heap H locs → lv_has ls 3 [(2, .int v17_l2), (1, .int v54_l1), (0, .ref a0)] → W p l e (headSpec vfX10_mostSeated { frames := 9, cells := 0, slots := 0, locals := 233 }).room s m ([.ref a0]).toArray below meth c H locs 0 0 QQ (F0 m 54 ls []) := by
            intro v54_s_s v54_l1 H locs ls h  hP hD hS hl
            rw [f_X10_mostSeated_J54] at h
            refine lv_iinc (v := (v17_l2 + (1 : Int32))) (lv' := [(2, .int (v17_l2 + (1 : Int32))), (1, .int v54_l1), (0, .ref a0)]) hx hb dX10_mostSeated_54 hl (k := 0) rfl rfl (by decide) rfl (fun ls hl => ?_)
            refine lv_goto (tgt := 17) hx hb dX10_mostSeated_57 (by decide) ?_
            exact ih17 (v17_l2 + (1 : Int32)) v54_l1 v54_s_s H _ ls h  (hP.sub (ws' := (bX8 a2 us ks v54_s_s (bX6 a1 up kp p_p ([(a0, .inr (7, [.ref a1, g8, g9, g10, g11, .ref a2, g12, g13, .int o5.2.1, .int o5.2.2]))])))) [0, 1, 2, 4, 5, 6, 7, 8, 9, 10, 11, 12, 13, 3] rfl) (hD.sub (ws' := (bX8 a2 us ks v54_s_s (bX6 a1 up kp p_p ([(a0, .inr (7, [.ref a1, g8, g9, g10, g11, .ref a2, g12, g13, .int o5.2.1, .int o5.2.2]))])))) [0, 1, 2, 4, 5, 6, 7, 8, 9, 10, 11, 12, 13, 3] (by decide) rfl) hS (lv_sub hl [0, 1, 2] rfl)
          refine lv_icmp_le (tgt := 54) hx hb dX10_mostSeated_33 (by decide) (fun c33 => ?_) (fun c33 => ?_)
          · have h := (if_pos c33).symm.trans h
            exact J54 v17_s_s v17_l1 H _ ls h  hP hD hS (lv_sub hl [0, 1, 2] rfl)
          · have h := (if_neg c33).symm.trans h
            refine lv_aload_n hx hb dX10_mostSeated_36 rfl (lv_at hl 2 rfl) ?_
            refine va_get (D := (dC, dI)) (ci := 7) (v := .ref a2) (C := RX10) (T := TX10) (N := 10) hx hb hts ifX10_mostSeated_X10 hown hK hP 3 rfl rfl 5 (by decide) (hts (.fieldLink RX10 43 "HookPier" "seats" "LHookPier$Seats;") (List.mem_of_getElem? (i := 25) rfl)) (fun _ h9 => h9) rfl dX10_mostSeated_37 ?_
            refine lv_aload_n hx hb dX10_mostSeated_40 rfl (lv_at hl 2 rfl) ?_
            refine va_get (D := (dC, dI)) (ci := 7) (v := .ref a1) (C := RX10) (T := TX10) (N := 10) hx hb hts ifX10_mostSeated_X10 hown hK hP 3 rfl rfl 0 (by decide) (hts (.fieldLink RX10 10 "HookPier" "plan" "LHookPier$Plan;") (List.mem_of_getElem? (i := 6) rfl)) (fun _ h9 => h9) rfl dX10_mostSeated_41 ?_
            refine lv_iload_n hx hb dX10_mostSeated_44 rfl (lv_at hl 0 rfl) ?_
            refine lv_iconst (v := 1) hx hb dX10_mostSeated_45 (by decide) ?_
            obtain ⟨o46, eo46, h⟩ := bd_of h
            refine cl_i (wc := (bX8 a2 us ks v17_s_s (bX6 a1 up kp p_p []))) (wr := ([(a0, .inr (7, [.ref a1, g8, g9, g10, g11, .ref a2, g12, g13, .int o5.2.1, .int o5.2.2]))])) (va_runV (As := [.ref a1, .int v17_l2, .int 1]) (rest := []) ⟨hx, hb, hml, hown, hts⟩ (kfX8_countRows l dC dI a2 a1 v17_l2 (1 : Int32) us ks up kp v17_s_s p_p H.size o46 eo46) (cwV 3 hts gfX10_mostSeated_4 rfl rfl rfl (by decide +kernel) ⟨(Nat.le_of_ble_eq_true rfl), (Nat.le_of_ble_eq_true rfl)⟩) (PV (hP.sub (ws' := (bX8 a2 us ks v17_s_s (bX6 a1 up kp p_p []))) [0, 1, 2, 4, 5, 6, 7, 8, 9, 10, 11, 12, 13] rfl) (hK.sub (tys' := (tX8 ks (tX6 kp ([])))) [9, 10, 0, 1, 2, 3, 4, 5, 6, 7, 8] rfl) (hD.sub (ws' := (bX8 a2 us ks v17_s_s (bX6 a1 up kp p_p []))) [0, 1, 2, 4, 5, 6, 7, 8, 9, 10, 11, 12, 13] (by decide) rfl) hN 0 rfl rfl) rfl rfl hl.1 rfl (lv_room (Nat.le_of_ble_eq_true rfl)) dX10_mostSeated_46 ⟨(Nat.le_of_ble_eq_true rfl), (Nat.le_of_ble_eq_true rfl)⟩) hP hD hK hS hA [0, 1, 2, 4, 5, 6, 7, 8, 9, 10, 11, 12, 13] [3] rfl rfl (by decide) (by decide) (fun r46 _ H locs hw hP hD _ hS => ?_)
            obtain rfl := hw
            have hP : va_P (dC, dI) vwCl ((a0, .inr (7, [.ref a1, g8, g9, g10, g11, .ref a2, g12, g13, .int o5.2.1, .int o5.2.2])) :: bX8 a2 us ks o46.2 (bX6 a1 up kp p_p [])) H := hP
            have hD : va_D A ((a0, .inr (7, [.ref a1, g8, g9, g10, g11, .ref a2, g12, g13, .int o5.2.1, .int o5.2.2])) :: bX8 a2 us ks o46.2 (bX6 a1 up kp p_p [])) := hD
            refine lv_if_le (tgt := 54) hx hb dX10_mostSeated_49 (by decide) (fun c49 => ?_) (fun c49 => ?_)
            · have h := (if_pos c49).symm.trans h
              exact J54 o46.2 v17_l1 H _ ls h  (hP.sub (ws' := (bX8 a2 us ks o46.2 ((a0, .inr (7, [.ref a1, g8, g9, g10, g11, .ref a2, g12, g13, .int o5.2.1, .int o5.2.2])) :: bX6 a1 up kp p_p []))) [1, 2, 3, 0, 4, 5, 6, 7, 8, 9, 10, 11, 12, 13] rfl) (hD.sub (ws' := (bX8 a2 us ks o46.2 ((a0, .inr (7, [.ref a1, g8, g9, g10, g11, .ref a2, g12, g13, .int o5.2.1, .int o5.2.2])) :: bX6 a1 up kp p_p []))) [1, 2, 3, 0, 4, 5, 6, 7, 8, 9, 10, 11, 12, 13] (by decide) rfl) hS (lv_sub hl [0, 1, 2] rfl)
            · have h := (if_neg c49).symm.trans h
              refine lv_iload_n hx hb dX10_mostSeated_52 rfl (lv_at hl 0 rfl) ?_
              refine lv_istore_n (lv' := [(1, .int v17_l2), (2, .int v17_l2), (0, .ref a0)]) hx hb dX10_mostSeated_53 rfl hl (by decide) rfl (fun ls hl => ?_)
              exact J54 o46.2 v17_l2 H _ ls h  (hP.sub (ws' := (bX8 a2 us ks o46.2 ((a0, .inr (7, [.ref a1, g8, g9, g10, g11, .ref a2, g12, g13, .int o5.2.1, .int o5.2.2])) :: bX6 a1 up kp p_p []))) [1, 2, 3, 0, 4, 5, 6, 7, 8, 9, 10, 11, 12, 13] rfl) (hD.sub (ws' := (bX8 a2 us ks o46.2 ((a0, .inr (7, [.ref a1, g8, g9, g10, g11, .ref a2, g12, g13, .int o5.2.1, .int o5.2.2])) :: bX6 a1 up kp p_p []))) [1, 2, 3, 0, 4, 5, 6, 7, 8, 9, 10, 11, 12, 13] (by decide) rfl) hS (lv_sub hl [1, 0, 2] rfl)
    exact L17 FU (1 : Int32) (0 : Int32) s_s H _ ls h  hP hD hS (lv_sub hl [0, 1, 2] rfl)
  · have h := (if_neg c8).symm.trans h
    refine lv_iconst (v := (-1)) hx hb dX10_mostSeated_11 (by decide) ?_
    obtain rfl := Option.some.inj h
    have hP9 := hP.sub (ws' := ((a0, .inr (7, [.ref a1, g8, g9, g10, g11, .ref a2, g12, g13, .int o5.2.1, .int o5.2.2])) :: bX6 a1 up kp p_p (bX8 a2 us ks s_s []))) [13, 3, 4, 5, 6, 7, 8, 9, 10, 11, 12, 0, 1, 2] rfl
    have hD9 := hD.sub (ws' := ((a0, .inr (7, [.ref a1, g8, g9, g10, g11, .ref a2, g12, g13, .int o5.2.1, .int o5.2.2])) :: bX6 a1 up kp p_p (bX8 a2 us ks s_s []))) [13, 3, 4, 5, 6, 7, 8, 9, 10, 11, 12, 0, 1, 2] (by decide) rfl
    have hK9 := hK.sub (tys' := []) [] rfl
    rw [hQQ]
    exact W.iret (v := (-1 : Int32)) hx hb hr (fun t ht hW => ⟨⟨(-1 : Int32), (), rfl, rfl, by rw [ht]; exact hP9, va_K.moved hW.alike hK9, hD9⟩, hS.F ht⟩) hS.2.2 dX10_mostSeated_12
theorem dX10_darkTrouble_0 : decode cX10_darkTrouble 0 = .ok (.aload_n 0, 1) := by decide +kernel
theorem dX10_darkTrouble_1 : decode cX10_darkTrouble 1 = .ok (.invokevirtual 216, 3) := by decide +kernel
theorem dX10_darkTrouble_10 : decode cX10_darkTrouble 10 = .ok (.getfield 10, 3) := by decide +kernel
theorem dX10_darkTrouble_13 : decode cX10_darkTrouble 13 = .ok (.getfield 287, 3) := by decide +kernel
theorem dX10_darkTrouble_16 : decode cX10_darkTrouble 16 = .ok (.iconst (-1), 1) := by decide +kernel
theorem dX10_darkTrouble_17 : decode cX10_darkTrouble 17 = .ok (.if_icmp .ne 8, 3) := by decide +kernel
theorem dX10_darkTrouble_20 : decode cX10_darkTrouble 20 = .ok (.bipush 6, 2) := by decide +kernel
theorem dX10_darkTrouble_22 : decode cX10_darkTrouble 22 = .ok (.goto 4, 3) := by decide +kernel
theorem dX10_darkTrouble_25 : decode cX10_darkTrouble 25 = .ok (.iload_n 1, 1) := by decide +kernel
theorem dX10_darkTrouble_26 : decode cX10_darkTrouble 26 = .ok (.ireturn, 1) := by decide +kernel
theorem dX10_darkTrouble_4 : decode cX10_darkTrouble 4 = .ok (.istore_n 1, 1) := by decide +kernel
theorem dX10_darkTrouble_5 : decode cX10_darkTrouble 5 = .ok (.iload_n 1, 1) := by decide +kernel
theorem dX10_darkTrouble_6 : decode cX10_darkTrouble 6 = .ok (.ifCond .ne 19, 3) := by decide +kernel
theorem dX10_darkTrouble_9 : decode cX10_darkTrouble 9 = .ok (.aload_n 0, 1) := by decide +kernel
def vfX10_darkTrouble : List Cond := .code yX10_darkTrouble cX10_darkTrouble 2 (some .int) :: ([.methodLink RX10 216 yX10_pierTrouble, .instanceMethod yX10_pierTrouble, .selects RX10 yX10_pierTrouble yX10_pierTrouble, .initialized RX10, .code yX10_pierTrouble cX10_pierTrouble 1 (some .int), .fieldLink RX10 10 "HookPier" "plan" "LHookPier$Plan;", .fieldLink RX10 233 "HookPier$Plan" "spots" "I", .fieldLink RX10 287 "HookPier$Plan" "darkHunger" "I"] ++ wsX100 ++ wsX60)
theorem ifX10_darkTrouble_X10 : ∀ w ∈ wsX100, w ∈ vfX10_darkTrouble := fun _ h => List.mem_cons_of_mem _ (List.mem_append_left _ (List.mem_append_right _ h))
theorem ifX10_darkTrouble_X6 : ∀ w ∈ wsX60, w ∈ vfX10_darkTrouble := fun _ h => List.mem_cons_of_mem _ (List.mem_append_right _ h)
set_option maxRecDepth 20000 in
theorem gfX10_darkTrouble_0 : GoodIn vfX10_darkTrouble (wsV RX10 216 RX10 yX10_pierTrouble vfX10_pierTrouble) := goodIn_app (goodIn_r [.methodLink RX10 216 yX10_pierTrouble, .instanceMethod yX10_pierTrouble, .selects RX10 yX10_pierTrouble yX10_pierTrouble, .initialized RX10] [1, 2, 3, 4] (by decide +kernel) (by decide +kernel)) (goodIn_ca (goodIn_ca (goodIn_r (.code yX10_pierTrouble cX10_pierTrouble 1 (some .int) :: [.fieldLink RX10 10 "HookPier" "plan" "LHookPier$Plan;", .fieldLink RX10 233 "HookPier$Plan" "spots" "I"]) [5, 6, 7] (by decide +kernel) (by decide +kernel) : GoodIn vfX10_darkTrouble (.code yX10_pierTrouble cX10_pierTrouble 1 (some .int) :: [.fieldLink RX10 10 "HookPier" "plan" "LHookPier$Plan;", .fieldLink RX10 233 "HookPier$Plan" "spots" "I"])) (goodIn_sub ifX10_darkTrouble_X10 (by decide +kernel))) (goodIn_sub ifX10_darkTrouble_X6 (by decide +kernel)))
set_option maxHeartbeats 2000000 in
set_option maxRecDepth 100000 in
theorem kfX10_darkTrouble (l : Launch) (dC : Nat → ClassId) (dI : Nat → Nat → Nat) (a0 : Nat) (a1 : Nat) (up : Nat → Nat) (kp : Nat → ClassId) (g4 : Value) (g5 : Value) (g6 : Value) (g7 : Value) (g8 : Value) (g9 : Value) (g10 : Value) (g11 : Value) (g12 : Value) (p_p : TX6_p) (sz : Nat) (out : Int32) (h : f_X10_darkTrouble p_p = out) : Met l yX10_darkTrouble vfX10_darkTrouble ({ frames := 1, cells := 0, slots := 0, locals := 20 }) (PC (dC, dI) [.ref a0] sz ((a0, .inr (7, [.ref a1, g4, g5, g6, g7, g8, g9, g10, g11, g12])) :: bX6 a1 up kp p_p []) (tX6 kp ([]))) (va_Qi (S := Unit) (fun (r : Int32) _ => r = out) (fun _ t => BC (dC, dI) (va_A ((a0, .inr (7, [.ref a1, g4, g5, g6, g7, g8, g9, g10, g11, g12])) :: bX6 a1 up kp p_p []) sz) ((a0, .inr (7, [.ref a1, g4, g5, g6, g7, g8, g9, g10, g11, g12])) :: bX6 a1 up kp p_p []) [] t) (va_A ((a0, .inr (7, [.ref a1, g4, g5, g6, g7, g8, g9, g10, g11, g12])) :: bX6 a1 up kp p_p []) sz)) 0 0 (va_A ((a0, .inr (7, [.ref a1, g4, g5, g6, g7, g8, g9, g10, g11, g12])) :: bX6 a1 up kp p_p []) sz) := by
  refine Met.ofW (cc := cX10_darkTrouble) (maxL := 2) (ret := (some .int)) (by decide) rfl ?_
  intro p e s m args below meth c s₁ B0 hml hv
  obtain ⟨rfl, hsz, hP, hK, hD0, hN⟩ := hv
  have hx := B0.exec
  have hb := B0.bytes
  have hr := B0.returns
  have hts := atoms_spec (ws := vfX10_darkTrouble) B0.pre
  have hown : s.vm.findClass RX10 = some m.cls := findClass_of_methodNamed B0.named
  have hlocks := B0.notSynchronized
  subst hsz
  have hD := hD0.self (sz := s.heap.size)
  generalize hAe : va_A ((a0, .inr (7, [.ref a1, g4, g5, g6, g7, g8, g9, g10, g11, g12])) :: bX6 a1 up kp p_p []) s.heap.size = A at hD ⊢
  have hA : ∀ q : Nat, s.heap.size ≤ q → A q := fun q h => by rw [← hAe]; exact Or.inr h
  have hS : va_S A s.heap s.heap [] := va_S.rf
  have hP : va_P (dC, dI) vwCl ((a0, .inr (7, [.ref a1, g4, g5, g6, g7, g8, g9, g10, g11, g12])) :: bX6 a1 up kp p_p []) s.heap := hP
  have hl := lv_entry ([.ref a0]) (n := 2) (Nat.le_of_ble_eq_true rfl)
  rw [lg_entry_eq]
  generalize (lg_sl ([.ref a0]) ++ List.replicate (2 - (lg_sl ([.ref a0])).length) Slot.unset).toArray = ls at hl ⊢
  have hl : lv_has ls 2 [(0, .ref a0)] := hl
  refine W_q (fun QQ hQQ => ?_)
  rw [f_X10_darkTrouble] at h
  refine lv_aload_n hx hb dX10_darkTrouble_0 rfl (lv_at hl 0 rfl) ?_
  obtain ⟨o1, eo1⟩ : ∃ o, o = f_X10_pierTrouble p_p := ⟨_, rfl⟩
  have h := nm_of h o1 eo1
  refine cl_i (wc := ((a0, .inr (7, [.ref a1, g4, g5, g6, g7, g8, g9, g10, g11, g12])) :: bX6 a1 up kp p_p [])) (wr := []) (va_runV (As := []) (rest := []) ⟨hx, hb, hml, hown, hts⟩ (kfX10_pierTrouble l dC dI a0 a1 up kp (g4) (g5) (g6) (g7) (g8) (g9) (g10) (g11) (g12) p_p s.heap.size o1 eo1.symm) (cwV 0 hts gfX10_darkTrouble_0 rfl rfl rfl (by decide +kernel) ⟨(Nat.le_of_ble_eq_true rfl), (Nat.le_of_ble_eq_true rfl)⟩) (PV (hP.sub (ws' := ((a0, .inr (7, [.ref a1, g4, g5, g6, g7, g8, g9, g10, g11, g12])) :: bX6 a1 up kp p_p [])) [0, 1, 2, 3, 4, 5, 6, 7, 8, 9, 10] rfl) (hK.sub (tys' := (tX6 kp ([]))) [0, 1, 2, 3, 4, 5, 6, 7, 8] rfl) (hD.sub (ws' := ((a0, .inr (7, [.ref a1, g4, g5, g6, g7, g8, g9, g10, g11, g12])) :: bX6 a1 up kp p_p [])) [0, 1, 2, 3, 4, 5, 6, 7, 8, 9, 10] (by decide) rfl) hN 0 rfl rfl) rfl rfl hl.1 rfl (lv_room (Nat.le_of_ble_eq_true rfl)) dX10_darkTrouble_1 ⟨(Nat.le_of_ble_eq_true rfl), (Nat.le_of_ble_eq_true rfl)⟩) hP hD hK hS hA [0, 1, 2, 3, 4, 5, 6, 7, 8, 9, 10] [] rfl rfl (by decide) (by decide) (fun r1 _ H locs hw hP hD _ hS => ?_)
  obtain rfl := hw.symm
  have hP : va_P (dC, dI) vwCl ((a0, .inr (7, [.ref a1, g4, g5, g6, g7, g8, g9, g10, g11, g12])) :: bX6 a1 up kp p_p []) H := hP
  have hD : va_D A ((a0, .inr (7, [.ref a1, g4, g5, g6, g7, g8, g9, g10, g11, g12])) :: bX6 a1 up kp p_p []) := hD
  refine lv_istore_n (lv' := [(1, .int o1), (0, .ref a0)]) hx hb dX10_darkTrouble_4 rfl hl (by decide) rfl (fun ls hl => ?_)
  refine lv_iload_n hx hb dX10_darkTrouble_5 rfl (lv_at hl 0 rfl) ?_
  have J25 : ∀ (H : Heap) (locs : List Loc) (ls : Array Slot), f_X10_darkTrouble_J25 o1 = out → va_P (dC, dI) vwCl ((a0, .inr (7, [.ref a1, g4, g5, g6, g7, g8, g9, g10, g11, g12])) :: bX6 a1 up kp p_p []) H → va_D A ((a0, .inr (7, [.ref a1, g4, g5, g6, g7, g8, g9, g10, g11, g12])) :: bX6 a1 up kp p_p []) → va_S A s.heap H locs → lv_has ls 2 [(1, .int o1)] → W p l e (headSpec vfX10_darkTrouble { frames := 1, cells := 0, slots := 0, locals := 20 }).room s m ([.ref a0]).toArray below meth c H locs 0 0 QQ (F0 m 25 ls []) := by
    intro  H locs ls h  hP hD hS hl
    rw [f_X10_darkTrouble_J25] at h
    refine lv_iload_n hx hb dX10_darkTrouble_25 rfl (lv_at hl 0 rfl) ?_
    obtain rfl := h
    have hP9 := hP.sub (ws' := ((a0, .inr (7, [.ref a1, g4, g5, g6, g7, g8, g9, g10, g11, g12])) :: bX6 a1 up kp p_p [])) [0, 1, 2, 3, 4, 5, 6, 7, 8, 9, 10] rfl
    have hD9 := hD.sub (ws' := ((a0, .inr (7, [.ref a1, g4, g5, g6, g7, g8, g9, g10, g11, g12])) :: bX6 a1 up kp p_p [])) [0, 1, 2, 3, 4, 5, 6, 7, 8, 9, 10] (by decide) rfl
    have hK9 := hK.sub (tys' := []) [] rfl
    rw [hQQ]
    exact W.iret (v := o1) hx hb hr (fun t ht hW => ⟨⟨o1, (), rfl, rfl, by rw [ht]; exact hP9, va_K.moved hW.alike hK9, hD9⟩, hS.F ht⟩) hS.2.2 dX10_darkTrouble_26
  refine lv_if_ne (tgt := 25) hx hb dX10_darkTrouble_6 (by decide) (fun c6 => ?_) (fun c6 => ?_)
  · have h := (if_neg c6).symm.trans h
    exact J25  H _ ls h  hP hD hS (lv_sub hl [0] rfl)
  · have h := (if_pos c6).symm.trans h
    refine lv_aload_n hx hb dX10_darkTrouble_9 rfl (lv_at hl 1 rfl) ?_
    refine va_get (D := (dC, dI)) (ci := 7) (v := .ref a1) (C := RX10) (T := TX10) (N := 10) hx hb hts ifX10_darkTrouble_X10 hown hK hP 0 rfl rfl 0 (by decide) (hts (.fieldLink RX10 10 "HookPier" "plan" "LHookPier$Plan;") (List.mem_of_getElem? (i := 6) rfl)) (fun _ h9 => h9) rfl dX10_darkTrouble_10 ?_
    refine va_get (D := (dC, dI)) (ci := 4) (v := .int p_p.2.2.2.2.2.2.2.2.1) (C := RX6) (T := TX6) (N := 18) hx hb hts ifX10_darkTrouble_X6 hown hK hP 1 rfl rfl 8 (by decide) (hts (.fieldLink RX10 287 "HookPier$Plan" "darkHunger" "I") (List.mem_of_getElem? (i := 8) rfl)) (fun _ h9 => h9) rfl dX10_darkTrouble_13 ?_
    refine lv_iconst (v := (-1)) hx hb dX10_darkTrouble_16 (by decide) ?_
    refine lv_icmp_ne (tgt := 25) hx hb dX10_darkTrouble_17 (by decide) (fun c17 => ?_) (fun c17 => ?_)
    · have h := (if_neg c17).symm.trans h
      exact J25  H _ ls h  hP hD hS (lv_sub hl [0] rfl)
    · have h := (if_pos c17).symm.trans h
      refine lv_bipush (v := 6) hx hb dX10_darkTrouble_20 (by decide) ?_
      refine lv_goto (tgt := 26) hx hb dX10_darkTrouble_22 (by decide) ?_
      obtain rfl := h
      have hP9 := hP.sub (ws' := ((a0, .inr (7, [.ref a1, g4, g5, g6, g7, g8, g9, g10, g11, g12])) :: bX6 a1 up kp p_p [])) [0, 1, 2, 3, 4, 5, 6, 7, 8, 9, 10] rfl
      have hD9 := hD.sub (ws' := ((a0, .inr (7, [.ref a1, g4, g5, g6, g7, g8, g9, g10, g11, g12])) :: bX6 a1 up kp p_p [])) [0, 1, 2, 3, 4, 5, 6, 7, 8, 9, 10] (by decide) rfl
      have hK9 := hK.sub (tys' := []) [] rfl
      rw [hQQ]
      exact W.iret (v := (6 : Int32)) hx hb hr (fun t ht hW => ⟨⟨(6 : Int32), (), rfl, rfl, by rw [ht]; exact hP9, va_K.moved hW.alike hK9, hD9⟩, hS.F ht⟩) hS.2.2 dX10_darkTrouble_26
theorem dX0_wouldBite_0 : decode cX0_wouldBite 0 = .ok (.iload_n 0, 1) := by decide +kernel
theorem dX0_wouldBite_1 : decode cX0_wouldBite 1 = .ok (.iload_n 1, 1) := by decide +kernel
theorem dX0_wouldBite_12 : decode cX0_wouldBite 12 = .ok (.bipush 20, 2) := by decide +kernel
theorem dX0_wouldBite_14 : decode cX0_wouldBite 14 = .ok (.goto 4, 3) := by decide +kernel
theorem dX0_wouldBite_17 : decode cX0_wouldBite 17 = .ok (.iconst 0, 1) := by decide +kernel
theorem dX0_wouldBite_18 : decode cX0_wouldBite 18 = .ok (.iadd, 1) := by decide +kernel
theorem dX0_wouldBite_19 : decode cX0_wouldBite 19 = .ok (.bipush 10, 2) := by decide +kernel
theorem dX0_wouldBite_2 : decode cX0_wouldBite 2 = .ok (.invokestatic 60, 3) := by decide +kernel
theorem dX0_wouldBite_21 : decode cX0_wouldBite 21 = .ok (.iload_n 1, 1) := by decide +kernel
theorem dX0_wouldBite_22 : decode cX0_wouldBite 22 = .ok (.invokestatic 64, 3) := by decide +kernel
theorem dX0_wouldBite_25 : decode cX0_wouldBite 25 = .ok (.iload_n 2, 1) := by decide +kernel
theorem dX0_wouldBite_26 : decode cX0_wouldBite 26 = .ok (.invokestatic 64, 3) := by decide +kernel
theorem dX0_wouldBite_29 : decode cX0_wouldBite 29 = .ok (.isub, 1) := by decide +kernel
theorem dX0_wouldBite_30 : decode cX0_wouldBite 30 = .ok (.invokestatic 67, 3) := by decide +kernel
theorem dX0_wouldBite_33 : decode cX0_wouldBite 33 = .ok (.imul, 1) := by decide +kernel
theorem dX0_wouldBite_34 : decode cX0_wouldBite 34 = .ok (.isub, 1) := by decide +kernel
theorem dX0_wouldBite_35 : decode cX0_wouldBite 35 = .ok (.bipush 8, 2) := by decide +kernel
theorem dX0_wouldBite_37 : decode cX0_wouldBite 37 = .ok (.iload_n 1, 1) := by decide +kernel
theorem dX0_wouldBite_38 : decode cX0_wouldBite 38 = .ok (.invokestatic 70, 3) := by decide +kernel
theorem dX0_wouldBite_41 : decode cX0_wouldBite 41 = .ok (.iload_n 2, 1) := by decide +kernel
theorem dX0_wouldBite_42 : decode cX0_wouldBite 42 = .ok (.invokestatic 70, 3) := by decide +kernel
theorem dX0_wouldBite_45 : decode cX0_wouldBite 45 = .ok (.isub, 1) := by decide +kernel
theorem dX0_wouldBite_46 : decode cX0_wouldBite 46 = .ok (.invokestatic 67, 3) := by decide +kernel
theorem dX0_wouldBite_49 : decode cX0_wouldBite 49 = .ok (.imul, 1) := by decide +kernel
theorem dX0_wouldBite_5 : decode cX0_wouldBite 5 = .ok (.iload_n 2, 1) := by decide +kernel
theorem dX0_wouldBite_50 : decode cX0_wouldBite 50 = .ok (.isub, 1) := by decide +kernel
theorem dX0_wouldBite_51 : decode cX0_wouldBite 51 = .ok (.istore_n 3, 1) := by decide +kernel
theorem dX0_wouldBite_52 : decode cX0_wouldBite 52 = .ok (.iload_n 3, 1) := by decide +kernel
theorem dX0_wouldBite_53 : decode cX0_wouldBite 53 = .ok (.bipush 50, 2) := by decide +kernel
theorem dX0_wouldBite_55 : decode cX0_wouldBite 55 = .ok (.if_icmp .lt 7, 3) := by decide +kernel
theorem dX0_wouldBite_58 : decode cX0_wouldBite 58 = .ok (.iconst 1, 1) := by decide +kernel
theorem dX0_wouldBite_59 : decode cX0_wouldBite 59 = .ok (.goto 4, 3) := by decide +kernel
theorem dX0_wouldBite_6 : decode cX0_wouldBite 6 = .ok (.invokestatic 60, 3) := by decide +kernel
theorem dX0_wouldBite_62 : decode cX0_wouldBite 62 = .ok (.iconst 0, 1) := by decide +kernel
theorem dX0_wouldBite_63 : decode cX0_wouldBite 63 = .ok (.ireturn, 1) := by decide +kernel
theorem dX0_wouldBite_9 : decode cX0_wouldBite 9 = .ok (.if_icmp .ne 8, 3) := by decide +kernel
def vfX0_wouldBite : List Cond := .code yX0_wouldBite cX0_wouldBite 4 (some .boolean) :: ([.code yX10_baitOf cX10_baitOf 1 (some .int), .initialized RX10, .static yX10_baitOf, .code yX10_spotOf cX10_spotOf 1 (some .int), .static yX10_spotOf, .methodLink RX0 67 Lib.Math.abs.name, .static Lib.Math.abs.name, .initialized "java/lang/Math", .code Lib.Math.abs.name Lib.Math.abs.code 1 (some .int), .code yX10_fathomsOf cX10_fathomsOf 1 (some .int), .static yX10_fathomsOf])
set_option maxRecDepth 20000 in
theorem gfX0_wouldBite_0 : GoodIn vfX0_wouldBite vfX10_baitOf := (goodIn_r (.code yX10_baitOf cX10_baitOf 1 (some .int) :: []) [1] (by decide +kernel) (by decide +kernel) : GoodIn vfX0_wouldBite (.code yX10_baitOf cX10_baitOf 1 (some .int) :: []))
set_option maxRecDepth 20000 in
theorem gfX0_wouldBite_1 : GoodIn vfX0_wouldBite vfX10_spotOf := (goodIn_r (.code yX10_spotOf cX10_spotOf 1 (some .int) :: []) [4] (by decide +kernel) (by decide +kernel) : GoodIn vfX0_wouldBite (.code yX10_spotOf cX10_spotOf 1 (some .int) :: []))
set_option maxRecDepth 20000 in
theorem gfX0_wouldBite_2 : GoodIn vfX0_wouldBite vfX10_fathomsOf := (goodIn_r (.code yX10_fathomsOf cX10_fathomsOf 1 (some .int) :: []) [10] (by decide +kernel) (by decide +kernel) : GoodIn vfX0_wouldBite (.code yX10_fathomsOf cX10_fathomsOf 1 (some .int) :: []))
set_option maxHeartbeats 2000000 in
set_option maxRecDepth 100000 in
theorem kfX0_wouldBite (l : Launch) (dC : Nat → ClassId) (dI : Nat → Nat → Nat) (k0 : Int32) (k1 : Int32) (k2 : Int32) (sz : Nat) (out : Int32) (h : f_X0_wouldBite k0 k1 k2 = out) : Met l yX0_wouldBite vfX0_wouldBite ({ frames := 1, cells := 0, slots := 0, locals := 21 }) (PC (dC, dI) [.int k0, .int k1, .int k2] sz [] ([])) (va_Qi (S := Unit) (fun (r : Int32) _ => r = out ∧ (0 ≤ r.toInt ∧ r.toInt ≤ 1)) (fun _ t => BC (dC, dI) (va_A [] sz) [] [] t) (va_A [] sz)) 0 0 (va_A [] sz) := by
  refine Met.ofW (cc := cX0_wouldBite) (maxL := 4) (ret := (some .boolean)) (by decide) rfl ?_
  intro p e s m args below meth c s₁ B0 hml hv
  obtain ⟨rfl, hsz, hP, hK, hD0, hN⟩ := hv
  have hx := B0.exec
  have hb := B0.bytes
  have hr := B0.returns
  have hts := atoms_spec (ws := vfX0_wouldBite) B0.pre
  have hown : s.vm.findClass RX0 = some m.cls := findClass_of_methodNamed B0.named
  have hlocks := B0.notSynchronized
  subst hsz
  have hD := hD0.self (sz := s.heap.size)
  generalize hAe : va_A [] s.heap.size = A at hD ⊢
  have hA : ∀ q : Nat, s.heap.size ≤ q → A q := fun q h => by rw [← hAe]; exact Or.inr h
  have hS : va_S A s.heap s.heap [] := va_S.rf
  have hP : va_P (dC, dI) vwCl [] s.heap := hP
  have hl := lv_entry ([.int k0, .int k1, .int k2]) (n := 4) (Nat.le_of_ble_eq_true rfl)
  rw [lg_entry_eq]
  generalize (lg_sl ([.int k0, .int k1, .int k2]) ++ List.replicate (4 - (lg_sl ([.int k0, .int k1, .int k2])).length) Slot.unset).toArray = ls at hl ⊢
  have hl : lv_has ls 4 [(0, .int k0), (1, .int k1), (2, .int k2)] := hl
  refine W_q (fun QQ hQQ => ?_)
  rw [f_X0_wouldBite] at h
  refine lv_iload_n hx hb dX0_wouldBite_0 rfl (lv_at hl 0 rfl) ?_
  refine lv_iload_n hx hb dX0_wouldBite_1 rfl (lv_at hl 1 rfl) ?_
  obtain ⟨o2, eo2⟩ : ∃ o, o = f_X10_baitOf k1 := ⟨_, rfl⟩
  have h := nm_of h o2 eo2
  refine cl_i (wc := []) (wr := []) (va_runSN (As := [.int k1]) (rest := [.int k0]) ⟨hx, hb, hml, hown, hts⟩ (kfX10_baitOf l dC dI k1 s.heap.size o2 eo2.symm) ⟨va_cnB 1 hts gfX0_wouldBite_0 rfl rfl rfl (hN.1 (.methodLinkNest RX0 60 yX10_baitOf "HookPier") (List.mem_of_getElem? (i := 15) rfl)) (hts (.initialized RX10) (List.mem_of_getElem? (i := 2) rfl)) (by decide +kernel) ⟨(Nat.le_of_ble_eq_true rfl), (Nat.le_of_ble_eq_true rfl)⟩, (hts (.static yX10_baitOf) (List.mem_of_getElem? (i := 3) rfl)), trivial⟩ (PS (hP.sub (ws' := []) [] rfl) (hK.sub (tys' := ([])) [] rfl) (hD.sub (ws' := []) [] (by decide) rfl) hN) rfl rfl hl.1 rfl (lv_room (Nat.le_of_ble_eq_true rfl)) dX0_wouldBite_2 ⟨(Nat.le_of_ble_eq_true rfl), (Nat.le_of_ble_eq_true rfl)⟩) hP hD hK hS hA [] [] rfl rfl (by decide) (by decide) (fun r2 _ H locs hw hP hD _ hS => ?_)
  obtain rfl := hw.symm
  have hP : va_P (dC, dI) vwCl [] H := hP
  have hD : va_D A [] := hD
  refine lv_iload_n hx hb dX0_wouldBite_5 rfl (lv_at hl 2 rfl) ?_
  obtain ⟨o6, eo6⟩ : ∃ o, o = f_X10_baitOf k2 := ⟨_, rfl⟩
  have h := nm_of h o6 eo6
  refine cl_i (wc := []) (wr := []) (va_runSN (As := [.int k2]) (rest := [.int o2, .int k0]) ⟨hx, hb, hml, hown, hts⟩ (kfX10_baitOf l dC dI k2 H.size o6 eo6.symm) ⟨va_cnB 1 hts gfX0_wouldBite_0 rfl rfl rfl (hN.1 (.methodLinkNest RX0 60 yX10_baitOf "HookPier") (List.mem_of_getElem? (i := 15) rfl)) (hts (.initialized RX10) (List.mem_of_getElem? (i := 2) rfl)) (by decide +kernel) ⟨(Nat.le_of_ble_eq_true rfl), (Nat.le_of_ble_eq_true rfl)⟩, (hts (.static yX10_baitOf) (List.mem_of_getElem? (i := 3) rfl)), trivial⟩ (PS (hP.sub (ws' := []) [] rfl) (hK.sub (tys' := ([])) [] rfl) (hD.sub (ws' := []) [] (by decide) rfl) hN) rfl rfl hl.1 rfl (lv_room (Nat.le_of_ble_eq_true rfl)) dX0_wouldBite_6 ⟨(Nat.le_of_ble_eq_true rfl), (Nat.le_of_ble_eq_true rfl)⟩) hP hD hK hS hA [] [] rfl rfl (by decide) (by decide) (fun r6 _ H locs hw hP hD _ hS => ?_)
  obtain rfl := hw.symm
  have hP : va_P (dC, dI) vwCl [] H := hP
  have hD : va_D A [] := hD
  have J18 : ∀ (v18_t1 : Int32) (H : Heap) (locs : List Loc) (ls : Array Slot), f_X0_wouldBite_J18 k0 k1 k2 v18_t1 = out → va_P (dC, dI) vwCl [] H → va_D A [] → va_S A s.heap H locs → lv_has ls 4 [(1, .int k1), (2, .int k2)] → W p l e (headSpec vfX0_wouldBite { frames := 1, cells := 0, slots := 0, locals := 21 }).room s m ([.int k0, .int k1, .int k2]).toArray below meth c H locs 0 0 QQ (F0 m 18 ls [.int v18_t1, .int k0]) := by
    intro v18_t1 H locs ls h  hP hD hS hl
    rw [f_X0_wouldBite_J18] at h
    refine lv_iadd hx hb dX0_wouldBite_18 ?_
    refine lv_bipush (v := 10) hx hb dX0_wouldBite_19 (by decide) ?_
    refine lv_iload_n hx hb dX0_wouldBite_21 rfl (lv_at hl 0 rfl) ?_
    obtain ⟨o22, eo22⟩ : ∃ o, o = f_X10_spotOf k1 := ⟨_, rfl⟩
    have h := nm_of h o22 eo22
    refine cl_i (wc := []) (wr := []) (va_runSN (As := [.int k1]) (rest := [.int 10, .int (k0 + v18_t1)]) ⟨hx, hb, hml, hown, hts⟩ (kfX10_spotOf l dC dI k1 H.size o22 eo22.symm) ⟨va_cnB 1 hts gfX0_wouldBite_1 rfl rfl rfl (hN.1 (.methodLinkNest RX0 64 yX10_spotOf "HookPier") (List.mem_of_getElem? (i := 16) rfl)) (hts (.initialized RX10) (List.mem_of_getElem? (i := 2) rfl)) (by decide +kernel) ⟨(Nat.le_of_ble_eq_true rfl), (Nat.le_of_ble_eq_true rfl)⟩, (hts (.static yX10_spotOf) (List.mem_of_getElem? (i := 5) rfl)), trivial⟩ (PS (hP.sub (ws' := []) [] rfl) (hK.sub (tys' := ([])) [] rfl) (hD.sub (ws' := []) [] (by decide) rfl) hN) rfl rfl hl.1 rfl (lv_room (Nat.le_of_ble_eq_true rfl)) dX0_wouldBite_22 ⟨(Nat.le_of_ble_eq_true rfl), (Nat.le_of_ble_eq_true rfl)⟩) hP hD hK hS hA [] [] rfl rfl (by decide) (by decide) (fun r22 _ H locs hw hP hD _ hS => ?_)
    obtain rfl := hw.symm
    have hP : va_P (dC, dI) vwCl [] H := hP
    have hD : va_D A [] := hD
    refine lv_iload_n hx hb dX0_wouldBite_25 rfl (lv_at hl 1 rfl) ?_
    obtain ⟨o26, eo26⟩ : ∃ o, o = f_X10_spotOf k2 := ⟨_, rfl⟩
    have h := nm_of h o26 eo26
    refine cl_i (wc := []) (wr := []) (va_runSN (As := [.int k2]) (rest := [.int o22, .int 10, .int (k0 + v18_t1)]) ⟨hx, hb, hml, hown, hts⟩ (kfX10_spotOf l dC dI k2 H.size o26 eo26.symm) ⟨va_cnB 1 hts gfX0_wouldBite_1 rfl rfl rfl (hN.1 (.methodLinkNest RX0 64 yX10_spotOf "HookPier") (List.mem_of_getElem? (i := 16) rfl)) (hts (.initialized RX10) (List.mem_of_getElem? (i := 2) rfl)) (by decide +kernel) ⟨(Nat.le_of_ble_eq_true rfl), (Nat.le_of_ble_eq_true rfl)⟩, (hts (.static yX10_spotOf) (List.mem_of_getElem? (i := 5) rfl)), trivial⟩ (PS (hP.sub (ws' := []) [] rfl) (hK.sub (tys' := ([])) [] rfl) (hD.sub (ws' := []) [] (by decide) rfl) hN) rfl rfl hl.1 rfl (lv_room (Nat.le_of_ble_eq_true rfl)) dX0_wouldBite_26 ⟨(Nat.le_of_ble_eq_true rfl), (Nat.le_of_ble_eq_true rfl)⟩) hP hD hK hS hA [] [] rfl rfl (by decide) (by decide) (fun r26 _ H locs hw hP hD _ hS => ?_)
    obtain rfl := hw.symm
    have hP : va_P (dC, dI) vwCl [] H := hP
    have hD : va_D A [] := hD
    refine lv_isub hx hb dX0_wouldBite_29 ?_
    refine va_mabs hx hb (by rw [hml]; exact hl.1.symm) hown (hts (.methodLink RX0 67 Lib.Math.abs.name) (List.mem_of_getElem? (i := 6) rfl)) (hts (.static Lib.Math.abs.name) (List.mem_of_getElem? (i := 7) rfl)) (hts (.initialized "java/lang/Math") (List.mem_of_getElem? (i := 8) rfl)) (hts (.code Lib.Math.abs.name Lib.Math.abs.code 1 (some .int)) (List.mem_of_getElem? (i := 9) rfl)) (Nat.le_of_ble_eq_true rfl) (Nat.le_of_ble_eq_true rfl) (Nat.le_of_ble_eq_true rfl) (Nat.le_of_ble_eq_true rfl) dX0_wouldBite_30 ?_
    refine lv_topi (fun z30 ez30 => ?_)
    have h := nm_of h z30 ez30
    refine lv_imul hx hb dX0_wouldBite_33 ?_
    refine lv_isub hx hb dX0_wouldBite_34 ?_
    refine lv_bipush (v := 8) hx hb dX0_wouldBite_35 (by decide) ?_
    refine lv_iload_n hx hb dX0_wouldBite_37 rfl (lv_at hl 0 rfl) ?_
    obtain ⟨o38, eo38⟩ : ∃ o, o = f_X10_fathomsOf k1 := ⟨_, rfl⟩
    have h := nm_of h o38 eo38
    refine cl_i (wc := []) (wr := []) (va_runSN (As := [.int k1]) (rest := [.int 8, .int ((k0 + v18_t1) - ((10 : Int32) * z30))]) ⟨hx, hb, hml, hown, hts⟩ (kfX10_fathomsOf l dC dI k1 H.size o38 eo38.symm) ⟨va_cnB 1 hts gfX0_wouldBite_2 rfl rfl rfl (hN.1 (.methodLinkNest RX0 70 yX10_fathomsOf "HookPier") (List.mem_of_getElem? (i := 17) rfl)) (hts (.initialized RX10) (List.mem_of_getElem? (i := 2) rfl)) (by decide +kernel) ⟨(Nat.le_of_ble_eq_true rfl), (Nat.le_of_ble_eq_true rfl)⟩, (hts (.static yX10_fathomsOf) (List.mem_of_getElem? (i := 11) rfl)), trivial⟩ (PS (hP.sub (ws' := []) [] rfl) (hK.sub (tys' := ([])) [] rfl) (hD.sub (ws' := []) [] (by decide) rfl) hN) rfl rfl hl.1 rfl (lv_room (Nat.le_of_ble_eq_true rfl)) dX0_wouldBite_38 ⟨(Nat.le_of_ble_eq_true rfl), (Nat.le_of_ble_eq_true rfl)⟩) hP hD hK hS hA [] [] rfl rfl (by decide) (by decide) (fun r38 _ H locs hw hP hD _ hS => ?_)
    obtain rfl := hw.symm
    have hP : va_P (dC, dI) vwCl [] H := hP
    have hD : va_D A [] := hD
    refine lv_iload_n hx hb dX0_wouldBite_41 rfl (lv_at hl 1 rfl) ?_
    obtain ⟨o42, eo42⟩ : ∃ o, o = f_X10_fathomsOf k2 := ⟨_, rfl⟩
    have h := nm_of h o42 eo42
    refine cl_i (wc := []) (wr := []) (va_runSN (As := [.int k2]) (rest := [.int o38, .int 8, .int ((k0 + v18_t1) - ((10 : Int32) * z30))]) ⟨hx, hb, hml, hown, hts⟩ (kfX10_fathomsOf l dC dI k2 H.size o42 eo42.symm) ⟨va_cnB 1 hts gfX0_wouldBite_2 rfl rfl rfl (hN.1 (.methodLinkNest RX0 70 yX10_fathomsOf "HookPier") (List.mem_of_getElem? (i := 17) rfl)) (hts (.initialized RX10) (List.mem_of_getElem? (i := 2) rfl)) (by decide +kernel) ⟨(Nat.le_of_ble_eq_true rfl), (Nat.le_of_ble_eq_true rfl)⟩, (hts (.static yX10_fathomsOf) (List.mem_of_getElem? (i := 11) rfl)), trivial⟩ (PS (hP.sub (ws' := []) [] rfl) (hK.sub (tys' := ([])) [] rfl) (hD.sub (ws' := []) [] (by decide) rfl) hN) rfl rfl hl.1 rfl (lv_room (Nat.le_of_ble_eq_true rfl)) dX0_wouldBite_42 ⟨(Nat.le_of_ble_eq_true rfl), (Nat.le_of_ble_eq_true rfl)⟩) hP hD hK hS hA [] [] rfl rfl (by decide) (by decide) (fun r42 _ H locs hw hP hD _ hS => ?_)
    obtain rfl := hw.symm
    have hP : va_P (dC, dI) vwCl [] H := hP
    have hD : va_D A [] := hD
    refine lv_isub hx hb dX0_wouldBite_45 ?_
    refine va_mabs hx hb (by rw [hml]; exact hl.1.symm) hown (hts (.methodLink RX0 67 Lib.Math.abs.name) (List.mem_of_getElem? (i := 6) rfl)) (hts (.static Lib.Math.abs.name) (List.mem_of_getElem? (i := 7) rfl)) (hts (.initialized "java/lang/Math") (List.mem_of_getElem? (i := 8) rfl)) (hts (.code Lib.Math.abs.name Lib.Math.abs.code 1 (some .int)) (List.mem_of_getElem? (i := 9) rfl)) (Nat.le_of_ble_eq_true rfl) (Nat.le_of_ble_eq_true rfl) (Nat.le_of_ble_eq_true rfl) (Nat.le_of_ble_eq_true rfl) dX0_wouldBite_46 ?_
    refine lv_topi (fun z46 ez46 => ?_)
    have h := nm_of h z46 ez46
    refine lv_imul hx hb dX0_wouldBite_49 ?_
    refine lv_isub hx hb dX0_wouldBite_50 ?_
    refine lv_topi (fun z50 ez50 => ?_)
    have h := nm_of h z50 ez50
    refine lv_istore_n (lv' := [(3, .int z50), (1, .int k1), (2, .int k2)]) hx hb dX0_wouldBite_51 rfl hl (by decide) rfl (fun ls hl => ?_)
    refine lv_iload_n hx hb dX0_wouldBite_52 rfl (lv_at hl 0 rfl) ?_
    refine lv_bipush (v := 50) hx hb dX0_wouldBite_53 (by decide) ?_
    refine lv_icmp_lt (tgt := 62) hx hb dX0_wouldBite_55 (by decide) (fun c55 => ?_) (fun c55 => ?_)
    · have h := (if_pos c55).symm.trans h
      refine lv_iconst (v := 0) hx hb dX0_wouldBite_62 (by decide) ?_
      obtain rfl := h
      have hP9 := hP.sub (ws' := []) [] rfl
      have hD9 := hD.sub (ws' := []) [] (by decide) rfl
      have hK9 := hK.sub (tys' := []) [] rfl
      rw [hQQ]
      exact W.zret (v := (0 : Int32)) hx hb hr rfl (fun t ht hW => ⟨⟨(0 : Int32), (), rfl, ⟨rfl, (by decide)⟩, by rw [ht]; exact hP9, va_K.moved hW.alike hK9, hD9⟩, hS.F ht⟩) hS.2.2 dX0_wouldBite_63
    · have h := (if_neg c55).symm.trans h
      refine lv_iconst (v := 1) hx hb dX0_wouldBite_58 (by decide) ?_
      refine lv_goto (tgt := 63) hx hb dX0_wouldBite_59 (by decide) ?_
      obtain rfl := h
      have hP9 := hP.sub (ws' := []) [] rfl
      have hD9 := hD.sub (ws' := []) [] (by decide) rfl
      have hK9 := hK.sub (tys' := []) [] rfl
      rw [hQQ]
      exact W.zret (v := (1 : Int32)) hx hb hr rfl (fun t ht hW => ⟨⟨(1 : Int32), (), rfl, ⟨rfl, (by decide)⟩, by rw [ht]; exact hP9, va_K.moved hW.alike hK9, hD9⟩, hS.F ht⟩) hS.2.2 dX0_wouldBite_63
  refine lv_icmp_ne (tgt := 17) hx hb dX0_wouldBite_9 (by decide) (fun c9 => ?_) (fun c9 => ?_)
  · have h := (if_neg c9).symm.trans h
    refine lv_iconst (v := 0) hx hb dX0_wouldBite_17 (by decide) ?_
    exact J18 (0 : Int32) H _ ls h  hP hD hS (lv_sub hl [1, 2] rfl)
  · have h := (if_pos c9).symm.trans h
    refine lv_bipush (v := 20) hx hb dX0_wouldBite_12 (by decide) ?_
    refine lv_goto (tgt := 18) hx hb dX0_wouldBite_14 (by decide) ?_
    exact J18 (20 : Int32) H _ ls h  hP hD hS (lv_sub hl [1, 2] rfl)
