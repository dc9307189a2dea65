noncomputable def zrX5_meanWorth_0 : List ZR := zc 0 true (.lconst 0) 1 (zc 1 true (.lstore_n 3) 1 (zc 2 true (.iconst 0) 1 (zc 3 true (.istore 5) 2 (zc 5 true (.iload 5) 2 (zc 7 true (.aload_n 0) 1 (zc 8 true (.getfield 11) 3 (zc 11 true (.if_icmp .ge 40) 3 (zc 14 true (.aload_n 0) 1 (zc 15 true (.getfield 29) 3 (zc 18 true (.iload 5) 2 (zc 20 true (.iaload) 1 (zc 21 true (.iconst 2) 1 (zc 22 true (.if_icmp .eq 23) 3 (zc 25 true (.lload_n 3) 1 (zc 26 true (.aload_n 0) 1 (zc 27 true (.getfield 32) 3 (zc 30 true (.iload 5) 2 (zc 32 true (.iaload) 1 (zc 33 true (.i2l) 1 (zc 34 true (.aload_n 0) 1 (zc 35 true (.aload_n 1) 1 (zc 36 true (.iload 5) 2 (zc 38 true (.iload_n 2) 1 (zc 39 true (.invokestatic 35) 3 (zc 42 true (.lmul) 1 (zc 43 true (.ladd) 1 (zc 44 true (.lstore_n 3) 1 (zc 45 true (.iinc 5 1) 3 (zc 48 true (.goto (-43)) 3 (zc 51 true (.lload_n 3) 1 (zc 52 true (.lreturn) 1 ([]))))))))))))))))))))))))))))))))
theorem zrX5_meanWorth_0_ok : zck 0 ((zby cX5_meanWorth).drop 0) zrX5_meanWorth_0 = true := by decide +kernel
def vfX5_meanWorth : List Cond := List.cons (.code yX5_meanWorth cX5_meanWorth 6 (some .long)) (apW [.fieldLink RX5 11 "HookPier$Plan" "answers" "I", .fieldLink RX5 29 "HookPier$Plan" "kind" "[I", .fieldLink RX5 32 "HookPier$Plan" "told" "[I", .methodLink RX5 35 yX5_chance, .static yX5_chance, .initialized RX5] (apW wsX60 (vfX5_chance)))
theorem ifX5_meanWorth_X6 : ∀ w ∈ wsX60, w ∈ vfX5_meanWorth := fun _ h => (List.mem_cons_of_mem _ (List.mem_append_right _ (List.mem_append_left _ h)))
theorem qfX5_meanWorth : Good vfX5_meanWorth := gd_cons (by decide +kernel) (gd_app (gd_dec (by decide +kernel) : Good [.fieldLink RX5 11 "HookPier$Plan" "answers" "I", .fieldLink RX5 29 "HookPier$Plan" "kind" "[I", .fieldLink RX5 32 "HookPier$Plan" "told" "[I", .methodLink RX5 35 yX5_chance, .static yX5_chance, .initialized RX5]) (gd_app qsX6 qfX5_chance))
theorem gfX5_meanWorth_0 : GoodIn vfX5_meanWorth (va_wsS RX5 35 yX5_chance vfX5_chance) := goodIn_app (goodIn_r [.methodLink RX5 35 yX5_chance, .static yX5_chance, .initialized RX5] [4, 5, 6] rfl (by decide +kernel)) (goodIn_m (fun _ h => (List.mem_cons_of_mem _ (List.mem_append_right _ (List.mem_append_right _ h)))) qfX5_chance)
set_option maxHeartbeats 2000000 in
set_option maxRecDepth 100000 in
theorem kfX5_meanWorth (l : Launch) (dC : Nat → ClassId) (dI : Nat → Nat → Nat) (a0 : Nat) (a1 : Nat) (k2 : Int32) (up : Nat → Nat) (kp : Nat → ClassId) (un : Nat → Nat) (kn : Nat → ClassId) (p_p : TX6_p) (n_n : TX4_n) (sz : Nat) (out : Int64) (h : f_X5_meanWorth k2 p_p n_n = some out) : KDl l yX5_meanWorth vfX5_meanWorth ({ frames := 4, cells := 0, slots := 0, locals := 95 }) (dC, dI) [.ref a0, .ref a1, .int k2] sz (bX6 a0 up kp p_p (bX4 a1 un kn n_n [])) (tX6 kp (tX4 kn ([]))) (fun (r : Int64) _ => r = out) 0 0 := by
  refine Met.ofW (cc := cX5_meanWorth) (maxL := 6) (ret := (some .long)) (by decide) rfl ?_
  intro p e s m args below meth c s₁ B0 hml hv
  obtain ⟨rfl, hsz, hP, hK, hD0, hN⟩ := hv
  have hx := B0.exec
  have hb := B0.bytes
  have hr := B0.returns
  have hts := atoms_spec (ws := vfX5_meanWorth) B0.pre
  have hown : s.vm.findClass RX5 = some m.cls := findClass_of_methodNamed B0.named
  have hlocks := B0.notSynchronized
  subst hsz
  have hD := hD0.self (sz := s.heap.size)
  generalize hAe : va_A (bX6 a0 up kp p_p (bX4 a1 un kn n_n [])) s.heap.size = A at hD ⊢
  have hA : ∀ q : Nat, s.heap.size ≤ q → A q := fun q h => by rw [← hAe]; exact Or.inr h
  have hS : va_S A s.heap s.heap [] := va_S.rf
  have hP : va_P (dC, dI) vwCl (bX6 a0 up kp p_p (bX4 a1 un kn n_n [])) s.heap := hP
  have hl := lv_entry ([.ref a0, .ref a1, .int k2]) (n := 6) (Nat.le_of_ble_eq_true rfl)
  rw [lg_entry_eq]
  generalize (lg_sl ([.ref a0, .ref a1, .int k2]) ++ List.replicate (6 - (lg_sl ([.ref a0, .ref a1, .int k2])).length) Slot.unset).toArray = ls at hl ⊢
  have hl : lv_has ls 6 [(0, .ref a0), (1, .ref a1), (2, .int k2)] := hl
  refine W_q (fun QQ hQQ => ?_)
  rw [f_X5_meanWorth] at h
  refine lv_lconst (v := 0) hx hb (zat zrX5_meanWorth_0_ok 0 rfl) (by decide) ?_
  refine lv_lstore_n (lv' := [(3, .long 0), (0, .ref a0), (1, .ref a1), (2, .int k2)]) hx hb (zat zrX5_meanWorth_0_ok 1 rfl) rfl hl (by decide) rfl (fun ls hl => ?_)
  refine lv_iconst (v := 0) hx hb (zat zrX5_meanWorth_0_ok 2 rfl) (by decide) ?_
  refine lv_istore (lv' := [(5, .int 0), (3, .long 0), (0, .ref a0), (1, .ref a1), (2, .int k2)]) hx hb (zat zrX5_meanWorth_0_ok 3 rfl) hl (by decide) rfl (fun ls hl => ?_)
  have L5 : ∀ (n5 : Nat) (v5_l5 : Int32) (v5_l3 : Int64) (H : Heap) (locs : List Loc) (ls : Array Slot), f_X5_meanWorth_L5 k2 p_p n_n n5 v5_l5 v5_l3 = some out → va_P (dC, dI) vwCl (bX6 a0 up kp p_p (bX4 a1 un kn n_n [])) H → va_D A (bX6 a0 up kp p_p (bX4 a1 un kn n_n [])) → va_S A s.heap H locs → lv_has ls 6 [(5, .int v5_l5), (3, .long v5_l3), (0, .ref a0), (1, .ref a1), (2, .int k2)] → W p l e (headSpec vfX5_meanWorth { frames := 4, cells := 0, slots := 0, locals := 95 }).room s m ([.ref a0, .ref a1, .int k2]).toArray below meth c H locs 0 0 QQ (F0 m 5 ls []) := by
    intro n5
    induction n5 with
    | zero =>
      intro v5_l5 v5_l3 H locs ls h  _ _ _ _
      rw [f_X5_meanWorth_L5] at h
      cases h
    | succ n5 ih5 =>
      intro v5_l5 v5_l3 H locs ls h  hP hD hS hl
      rw [f_X5_meanWorth_L5] at h
      refine lv_iload hx hb (zat zrX5_meanWorth_0_ok 4 rfl) (lv_at hl 0 rfl) ?_
      refine lv_aload_n hx hb (zat zrX5_meanWorth_0_ok 5 rfl) rfl (lv_at hl 2 rfl) ?_
      refine va_get (D := (dC, dI)) (ci := 4) (v := .int p_p.2.2.2.2.2.2.1) (C := RX6) (T := TX6) (N := 18) hx hb hts ifX5_meanWorth_X6 hown hK hP 0 rfl rfl 6 (by decide) (hts (.fieldLink RX5 11 "HookPier$Plan" "answers" "I") (List.mem_of_getElem? (i := 1) rfl)) (fun _ h9 => h9) rfl (zat zrX5_meanWorth_0_ok 6 rfl) ?_
      refine lv_icmp_ge (tgt := 51) hx hb (zat zrX5_meanWorth_0_ok 7 rfl) (by decide) (fun c11 => ?_) (fun c11 => ?_)
      · have h := (if_pos c11).symm.trans h
        refine lv_lload_n hx hb (zat zrX5_meanWorth_0_ok 30 rfl) rfl (lv_at hl 1 rfl) ?_
        obtain rfl := Option.some.inj h
        obtain ⟨hP9, hD9⟩ := pd_sub (bX6 a0 up kp p_p (bX4 a1 un kn n_n [])) [0, 1, 2, 3, 4, 5, 6, 7, 8, 9, 10, 11, 12, 13, 14] hP hD (by decide) rfl
        have hK9 := hK.sub (tys' := []) [] rfl
        rw [hQQ]
        exact W.lret (v := v5_l3) hx hb hr (fun t ht hW => ⟨⟨v5_l3, (), rfl, rfl, by rw [ht]; exact hP9, va_K.moved hW.alike hK9, hD9⟩, hS.F ht⟩) hS.2.2 (zat zrX5_meanWorth_0_ok 31 rfl)
      · have h := (if_neg c11).symm.trans h
        refine lv_aload_n hx hb (zat zrX5_meanWorth_0_ok 8 rfl) rfl (lv_at hl 2 rfl) ?_
        refine va_get (D := (dC, dI)) (ci := 4) (v := .ref (up 1)) (C := RX6) (T := TX6) (N := 18) hx hb hts ifX5_meanWorth_X6 hown hK hP 0 rfl rfl 10 (by decide) (hts (.fieldLink RX5 29 "HookPier$Plan" "kind" "[I") (List.mem_of_getElem? (i := 2) rfl)) (fun _ h9 => h9) rfl (zat zrX5_meanWorth_0_ok 9 rfl) ?_
        refine lv_iload hx hb (zat zrX5_meanWorth_0_ok 10 rfl) (lv_at hl 0 rfl) ?_
        obtain ⟨hg20, h⟩ := gA_of h
        refine va_iald hx hb hK hP 2 1 rfl rfl hg20 (zat zrX5_meanWorth_0_ok 11 rfl) ?_
        refine lv_iconst (v := 2) hx hb (zat zrX5_meanWorth_0_ok 12 rfl) (by decide) ?_
        have J45 : ∀ (v45_l3 : Int64) (H : Heap) (locs : List Loc) (ls : Array Slot), f_X5_meanWorth_J45 (f_X5_meanWorth_L5 k2 p_p n_n n5) v5_l5 v45_l3 = some out → va_P (dC, dI) vwCl (bX6 a0 up kp p_p (bX4 a1 un kn n_n [])) H → va_D A (bX6 a0 up kp p_p (bX4 a1 un kn n_n [])) → va_S A s.heap H locs → lv_has ls 6 [(5, .int v5_l5), (3, .long v45_l3), (0, .ref a0), (1, .ref a1), (2, .int k2)] → W p l e (headSpec vfX5_meanWorth { frames := 4, cells := 0, slots := 0, locals := 95 }).room s m ([.ref a0, .ref a1, .int k2]).toArray below meth c H locs 0 0 QQ (F0 m 45 ls []) := by
          intro v45_l3 H locs ls h  hP hD hS hl
          rw [f_X5_meanWorth_J45] at h
          refine lv_iinc (v := (v5_l5 + (1 : Int32))) (lv' := [(5, .int (v5_l5 + (1 : Int32))), (3, .long v45_l3), (0, .ref a0), (1, .ref a1), (2, .int k2)]) hx hb (zat zrX5_meanWorth_0_ok 28 rfl) hl (k := 0) rfl rfl (by decide) rfl (fun ls hl => ?_)
          refine lv_goto (tgt := 5) hx hb (zat zrX5_meanWorth_0_ok 29 rfl) (by decide) ?_
          exact ih5 (v5_l5 + (1 : Int32)) v45_l3 H _ ls h  hP hD hS (lv_sub hl [0, 1, 2, 3, 4] rfl)
        refine lv_icmp_eq (tgt := 45) hx hb (zat zrX5_meanWorth_0_ok 13 rfl) (by decide) (fun c22 => ?_) (fun c22 => ?_)
        · have h := (if_pos c22).symm.trans h
          exact J45 v5_l3 H _ ls h  hP hD hS (lv_sub hl [0, 1, 2, 3, 4] rfl)
        · have h := (if_neg c22).symm.trans h
          refine lv_lload_n hx hb (zat zrX5_meanWorth_0_ok 14 rfl) rfl (lv_at hl 1 rfl) ?_
          refine lv_aload_n hx hb (zat zrX5_meanWorth_0_ok 15 rfl) rfl (lv_at hl 2 rfl) ?_
          refine va_get (D := (dC, dI)) (ci := 4) (v := .ref (up 6)) (C := RX6) (T := TX6) (N := 18) hx hb hts ifX5_meanWorth_X6 hown hK hP 0 rfl rfl 15 (by decide) (hts (.fieldLink RX5 32 "HookPier$Plan" "told" "[I") (List.mem_of_getElem? (i := 3) rfl)) (fun _ h9 => h9) rfl (zat zrX5_meanWorth_0_ok 16 rfl) ?_
          refine lv_iload hx hb (zat zrX5_meanWorth_0_ok 17 rfl) (lv_at hl 0 rfl) ?_
          obtain ⟨hg32, h⟩ := gA_of h
          refine va_iald hx hb hK hP 7 6 rfl rfl hg32 (zat zrX5_meanWorth_0_ok 18 rfl) ?_
          refine lv_i2l hx hb (zat zrX5_meanWorth_0_ok 19 rfl) rfl ?_
          refine lv_topl (fun z33 ez33 => ?_)
          have h := nm_of h z33 ez33
          refine lv_aload_n hx hb (zat zrX5_meanWorth_0_ok 20 rfl) rfl (lv_at hl 2 rfl) ?_
          refine lv_aload_n hx hb (zat zrX5_meanWorth_0_ok 21 rfl) rfl (lv_at hl 3 rfl) ?_
          refine lv_iload hx hb (zat zrX5_meanWorth_0_ok 22 rfl) (lv_at hl 0 rfl) ?_
          refine lv_iload_n hx hb (zat zrX5_meanWorth_0_ok 23 rfl) rfl (lv_at hl 4 rfl) ?_
          obtain ⟨o39, eo39, h⟩ := bd_of h
          refine ck_l (wc := (bX6 a0 up kp p_p (bX4 a1 un kn n_n []))) (wr := []) hP hD hK hS hA [0, 1, 2, 3, 4, 5, 6, 7, 8, 9, 10, 11, 12, 13, 14] [] rfl rfl (by decide) (by decide) (by decide) (fun hPc hDc => (va_runS (As := [.ref a0, .ref a1, .int v5_l5, .int k2]) (rest := [.long z33, .long v5_l3]) ⟨hx, hb, hml, hown, hts⟩ (kfX5_chance l dC dI a0 a1 v5_l5 k2 up kp un kn p_p n_n H.size o39 eo39) (va_cwS 4 hts gfX5_meanWorth_0 rfl rfl rfl (by decide +kernel) ⟨(Nat.le_of_ble_eq_true rfl), (Nat.le_of_ble_eq_true rfl)⟩) (PS hPc (hK.sub (tys' := (tX6 kp (tX4 kn ([])))) [0, 1, 2, 3, 4, 5, 6, 7, 8, 9, 10, 11, 12] rfl) hDc hN) rfl rfl hl.1 rfl (lv_room (Nat.le_of_ble_eq_true rfl)) (zat zrX5_meanWorth_0_ok 24 rfl) ⟨(Nat.le_of_ble_eq_true rfl), (Nat.le_of_ble_eq_true rfl)⟩)) (fun r39 _ H locs hw hP hD _ hS => ?_)
          obtain rfl := hw.symm
          obtain ⟨hP, hD⟩ := pd_mk (bX6 a0 up kp p_p (bX4 a1 un kn n_n [])) hP hD
          refine lv_lmul hx hb (zat zrX5_meanWorth_0_ok 25 rfl) ?_
          refine lv_ladd hx hb (zat zrX5_meanWorth_0_ok 26 rfl) ?_
          refine lv_lstore_n (lv' := [(3, .long (v5_l3 + (z33 * o39))), (5, .int v5_l5), (0, .ref a0), (1, .ref a1), (2, .int k2)]) hx hb (zat zrX5_meanWorth_0_ok 27 rfl) rfl hl (by decide) rfl (fun ls hl => ?_)
          exact J45 (v5_l3 + (z33 * o39)) H _ ls h  hP hD hS (lv_sub hl [1, 0, 2, 3, 4] rfl)
  exact L5 FU (0 : Int32) (0 : Int64) s.heap _ ls h  hP hD hS (lv_sub hl [0, 1, 2, 3, 4] rfl)
noncomputable def zrX10_mean_0 : List ZR := zc 0 true (.aload_n 0) 1 (zc 1 true (.aload_n 0) 1 (zc 2 true (.iload_n 1) 1 (zc 3 true (.iload_n 2) 1 (zc 4 true (.iload_n 3) 1 (zc 5 true (.invokevirtual 199) 3 (zc 8 true (.invokevirtual 79) 3 (zc 11 true (.ifCond .eq 7) 3 (zc 14 true (.ldc2_w 187) 3 (zc 17 true (.lreturn) 1 (zc 18 true (.aload_n 0) 1 (zc 19 true (.getfield 10) 3 (zc 22 true (.aload_n 0) 1 (zc 23 true (.getfield 29) 3 (zc 26 true (.iload_n 1) 1 (zc 27 true (.iload_n 2) 1 (zc 28 true (.iload_n 3) 1 (zc 29 true (.invokestatic 180) 3 (zc 32 true (.invokestatic 202) 3 (zc 35 true (.iload 4) 2 (zc 37 true (.invokestatic 195) 3 (zc 40 true (.lreturn) 1 ([]))))))))))))))))))))))
theorem zrX10_mean_0_ok : zck 0 ((zby cX10_mean).drop 0) zrX10_mean_0 = true := by decide +kernel
def vfX10_mean : List Cond := List.cons (.code yX10_mean cX10_mean 5 (some .long)) (apW [.methodLink RX10 199 yX10_questionTrouble, .instanceMethod yX10_questionTrouble, .selects RX10 yX10_questionTrouble yX10_questionTrouble, .initialized RX10, .methodLink RX10 79 yX10_refused, .instanceMethod yX10_refused, .selects RX10 yX10_refused yX10_refused, .fieldLink RX10 10 "HookPier" "plan" "LHookPier$Plan;", .fieldLink RX10 29 "HookPier" "now" "LHookPier$Now;", .methodLink RX10 180 yX10_question, .static yX10_question, .methodLink RX10 202 yX5_meanWorth, .static yX5_meanWorth, .initialized RX5, .methodLink RX10 195 yX5_term, .static yX5_term, .constantLong RX10 187 (-1)] (apW wsX100 (apW vfX10_questionTrouble (apW vfX10_refused (apW vfX10_question (apW vfX5_meanWorth (vfX5_term)))))))
theorem ifX10_mean_X10 : ∀ w ∈ wsX100, w ∈ vfX10_mean := fun _ h => (List.mem_cons_of_mem _ (List.mem_append_right _ (List.mem_append_left _ h)))
theorem qfX10_mean : Good vfX10_mean := gd_cons (by decide +kernel) (gd_app (gd_dec (by decide +kernel) : Good [.methodLink RX10 199 yX10_questionTrouble, .instanceMethod yX10_questionTrouble, .selects RX10 yX10_questionTrouble yX10_questionTrouble, .initialized RX10, .methodLink RX10 79 yX10_refused, .instanceMethod yX10_refused, .selects RX10 yX10_refused yX10_refused, .fieldLink RX10 10 "HookPier" "plan" "LHookPier$Plan;", .fieldLink RX10 29 "HookPier" "now" "LHookPier$Now;", .methodLink RX10 180 yX10_question, .static yX10_question, .methodLink RX10 202 yX5_meanWorth, .static yX5_meanWorth, .initialized RX5, .methodLink RX10 195 yX5_term, .static yX5_term, .constantLong RX10 187 (-1)]) (gd_app qsX10 (gd_app qfX10_questionTrouble (gd_app qfX10_refused (gd_app qfX10_question (gd_app qfX5_meanWorth qfX5_term))))))
theorem gfX10_mean_0 : GoodIn vfX10_mean (wsV RX10 199 RX10 yX10_questionTrouble vfX10_questionTrouble) := goodIn_app (goodIn_r [.methodLink RX10 199 yX10_questionTrouble, .instanceMethod yX10_questionTrouble, .selects RX10 yX10_questionTrouble yX10_questionTrouble, .initialized RX10] [1, 2, 3, 4] rfl (by decide +kernel)) (goodIn_m (fun _ h => (List.mem_cons_of_mem _ (List.mem_append_right _ (List.mem_append_right _ (List.mem_append_left _ h))))) qfX10_questionTrouble)
theorem gfX10_mean_1 : GoodIn vfX10_mean (wsV RX10 79 RX10 yX10_refused vfX10_refused) := goodIn_app (goodIn_r [.methodLink RX10 79 yX10_refused, .instanceMethod yX10_refused, .selects RX10 yX10_refused yX10_refused, .initialized RX10] [5, 6, 7, 4] rfl (by decide +kernel)) (goodIn_m (fun _ h => (List.mem_cons_of_mem _ (List.mem_append_right _ (List.mem_append_right _ (List.mem_append_right _ (List.mem_append_left _ h)))))) qfX10_refused)
theorem gfX10_mean_2 : GoodIn vfX10_mean (va_wsS RX10 180 yX10_question vfX10_question) := goodIn_app (goodIn_r [.methodLink RX10 180 yX10_question, .static yX10_question, .initialized RX10] [10, 11, 4] rfl (by decide +kernel)) (goodIn_m (fun _ h => (List.mem_cons_of_mem _ (List.mem_append_right _ (List.mem_append_right _ (List.mem_append_right _ (List.mem_append_right _ (List.mem_append_left _ h))))))) qfX10_question)
theorem gfX10_mean_3 : GoodIn vfX10_mean (va_wsS RX10 202 yX5_meanWorth vfX5_meanWorth) := goodIn_app (goodIn_r [.methodLink RX10 202 yX5_meanWorth, .static yX5_meanWorth, .initialized RX5] [12, 13, 14] rfl (by decide +kernel)) (goodIn_m (fun _ h => (List.mem_cons_of_mem _ (List.mem_append_right _ (List.mem_append_right _ (List.mem_append_right _ (List.mem_append_right _ (List.mem_append_right _ (List.mem_append_left _ h)))))))) qfX5_meanWorth)
theorem gfX10_mean_4 : GoodIn vfX10_mean (va_wsS RX10 195 yX5_term vfX5_term) := goodIn_app (goodIn_r [.methodLink RX10 195 yX5_term, .static yX5_term, .initialized RX5] [15, 16, 14] rfl (by decide +kernel)) (goodIn_m (fun _ h => (List.mem_cons_of_mem _ (List.mem_append_right _ (List.mem_append_right _ (List.mem_append_right _ (List.mem_append_right _ (List.mem_append_right _ (List.mem_append_right _ h)))))))) qfX5_term)
set_option maxHeartbeats 2000000 in
set_option maxRecDepth 100000 in
theorem kfX10_mean (l : Launch) (dC : Nat → ClassId) (dI : Nat → Nat → Nat) (a0 : Nat) (k1 : Int32) (k2 : Int32) (k3 : Int32) (k4 : Int32) (a5 : Nat) (a6 : Nat) (up : Nat → Nat) (kp : Nat → ClassId) (un : Nat → Nat) (kn : Nat → ClassId) (x_x : TX10_x) (g12 : Value) (g13 : Value) (g14 : Value) (g15 : Value) (g16 : Value) (g17 : Value) (p_p : TX6_p) (n_n : TX4_n) (sz : Nat) (out : (Int64 × TX10_x)) (h : f_X10_mean k1 k2 k3 k4 x_x p_p n_n = some out) : KCl l yX10_mean vfX10_mean ({ frames := 5, cells := 0, slots := 0, locals := 120 }) (dC, dI) [.ref a0, .int k1, .int k2, .int k3, .int k4] sz ((a0, .inr (7, [.ref a5, g12, g13, .ref a6, g14, g15, g16, g17, .int x_x.1, .int x_x.2])) :: bX6 a5 up kp p_p (bX4 a6 un kn n_n [])) (tX6 kp (tX4 kn ([]))) (fun (r : Int64) _ => r = out.1) ((a0, .inr (7, [.ref a5, g12, g13, .ref a6, g14, g15, g16, g17, .int out.2.1, .int out.2.2])) :: bX6 a5 up kp p_p (bX4 a6 un kn n_n [])) 0 0 := by
  refine Met.ofW (cc := cX10_mean) (maxL := 5) (ret := (some .long)) (by decide) rfl ?_
  intro p e s m args below meth c s₁ B0 hml hv
  obtain ⟨rfl, hsz, hP, hK, hD0, hN⟩ := hv
  have hx := B0.exec
  have hb := B0.bytes
  have hr := B0.returns
  have hts := atoms_spec (ws := vfX10_mean) B0.pre
  have hown : s.vm.findClass RX10 = some m.cls := findClass_of_methodNamed B0.named
  have hlocks := B0.notSynchronized
  subst hsz
  have hD := hD0.self (sz := s.heap.size)
  generalize hAe : va_A ((a0, .inr (7, [.ref a5, g12, g13, .ref a6, g14, g15, g16, g17, .int x_x.1, .int x_x.2])) :: bX6 a5 up kp p_p (bX4 a6 un kn n_n [])) s.heap.size = A at hD ⊢
  have hA : ∀ q : Nat, s.heap.size ≤ q → A q := fun q h => by rw [← hAe]; exact Or.inr h
  have hS : va_S A s.heap s.heap [] := va_S.rf
  have hP : va_P (dC, dI) vwCl ((a0, .inr (7, [.ref a5, g12, g13, .ref a6, g14, g15, g16, g17, .int x_x.1, .int x_x.2])) :: bX6 a5 up kp p_p (bX4 a6 un kn n_n [])) s.heap := hP
  have hl := lv_entry ([.ref a0, .int k1, .int k2, .int k3, .int k4]) (n := 5) (Nat.le_of_ble_eq_true rfl)
  rw [lg_entry_eq]
  generalize (lg_sl ([.ref a0, .int k1, .int k2, .int k3, .int k4]) ++ List.replicate (5 - (lg_sl ([.ref a0, .int k1, .int k2, .int k3, .int k4])).length) Slot.unset).toArray = ls at hl ⊢
  have hl : lv_has ls 5 [(0, .ref a0), (1, .int k1), (2, .int k2), (3, .int k3), (4, .int k4)] := hl
  refine W_q (fun QQ hQQ => ?_)
  rw [f_X10_mean] at h
  refine lv_aload_n hx hb (zat zrX10_mean_0_ok 0 rfl) rfl (lv_at hl 0 rfl) ?_
  refine lv_aload_n hx hb (zat zrX10_mean_0_ok 1 rfl) rfl (lv_at hl 0 rfl) ?_
  refine lv_iload_n hx hb (zat zrX10_mean_0_ok 2 rfl) rfl (lv_at hl 1 rfl) ?_
  refine lv_iload_n hx hb (zat zrX10_mean_0_ok 3 rfl) rfl (lv_at hl 2 rfl) ?_
  refine lv_iload_n hx hb (zat zrX10_mean_0_ok 4 rfl) rfl (lv_at hl 3 rfl) ?_
  obtain ⟨o5, eo5⟩ : ∃ o, o = f_X10_questionTrouble k1 k2 k3 p_p := ⟨_, rfl⟩
  have h := nm_of h o5 eo5
  refine ck_i (wc := ((a0, .inr (7, [.ref a5, g12, g13, .ref a6, g14, g15, g16, g17, .int x_x.1, .int x_x.2])) :: bX6 a5 up kp p_p [])) (wr := (bX4 a6 un kn n_n [])) hP hD hK hS hA [0, 1, 2, 3, 4, 5, 6, 7, 8, 9, 10] [11, 12, 13, 14, 15] rfl rfl (by decide) (by decide) (by decide) (fun hPc hDc => (va_runV (As := [.int k1, .int k2, .int k3]) (rest := [.ref a0]) ⟨hx, hb, hml, hown, hts⟩ (kfX10_questionTrouble l dC dI a0 k1 k2 k3 a5 up kp (g12) (g13) (.ref a6) (g14) (g15) (g16) (g17) (.int x_x.1) (.int x_x.2) p_p s.heap.size o5 eo5.symm) (cwV 3 hts gfX10_mean_0 rfl rfl rfl (by decide +kernel) ⟨(Nat.le_of_ble_eq_true rfl), (Nat.le_of_ble_eq_true rfl)⟩) (PV hPc (hK.sub (tys' := (tX6 kp ([]))) [0, 1, 2, 3, 4, 5, 6, 7, 8] rfl) hDc hN 0 rfl rfl) rfl rfl hl.1 rfl (lv_room (Nat.le_of_ble_eq_true rfl)) (zat zrX10_mean_0_ok 5 rfl) ⟨(Nat.le_of_ble_eq_true rfl), (Nat.le_of_ble_eq_true rfl)⟩)) (fun r5 _ H locs hw hP hD _ hS => ?_)
  obtain rfl := hw.symm
  obtain ⟨hP, hD⟩ := pd_mk (bX4 a6 un kn n_n ((a0, .inr (7, [.ref a5, g12, g13, .ref a6, g14, g15, g16, g17, .int x_x.1, .int x_x.2])) :: bX6 a5 up kp p_p [])) hP hD
  obtain ⟨o8, eo8⟩ : ∃ o, o = f_X10_refused o5 x_x := ⟨_, rfl⟩
  have h := nm_of h o8 eo8
  refine ck_i (wc := ([(a0, .inr (7, [.ref a5, g12, g13, .ref a6, g14, g15, g16, g17, .int x_x.1, .int x_x.2]))])) (wr := (bX4 a6 un kn n_n (bX6 a5 up kp p_p []))) hP hD hK hS hA [5] [0, 1, 2, 3, 4, 6, 7, 8, 9, 10, 11, 12, 13, 14, 15] rfl rfl (by decide) (by decide) (by decide) (fun hPc hDc => (va_runV (As := [.int o5]) (rest := []) ⟨hx, hb, hml, hown, hts⟩ (kfX10_refused l dC dI a0 o5 x_x (.ref a5) (g12) (g13) (.ref a6) (g14) (g15) (g16) (g17) H.size o8 eo8.symm) (cwV 1 hts gfX10_mean_1 rfl rfl rfl (by decide +kernel) ⟨(Nat.le_of_ble_eq_true rfl), (Nat.le_of_ble_eq_true rfl)⟩) (PV hPc (hK.sub (tys' := ([])) [] rfl) hDc hN 0 rfl rfl) rfl rfl hl.1 rfl (lv_room (Nat.le_of_ble_eq_true rfl)) (zat zrX10_mean_0_ok 6 rfl) ⟨(Nat.le_of_ble_eq_true rfl), (Nat.le_of_ble_eq_true rfl)⟩)) (fun r8 _ H locs hw hP hD _ hS => ?_)
  obtain ⟨hw, br8⟩ := hw
  obtain rfl := hw
  obtain ⟨hP, hD⟩ := pd_mk (bX4 a6 un kn n_n (bX6 a5 up kp p_p ([(a0, .inr (7, [.ref a5, g12, g13, .ref a6, g14, g15, g16, g17, .int o8.2.1, .int o8.2.2]))]))) hP hD
  refine lv_if_eq (tgt := 18) hx hb (zat zrX10_mean_0_ok 7 rfl) (by decide) (fun c11 => ?_) (fun c11 => ?_)
  · have h := (if_pos c11).symm.trans h
    refine lv_aload_n hx hb (zat zrX10_mean_0_ok 10 rfl) rfl (lv_at hl 0 rfl) ?_
    refine va_get (D := (dC, dI)) (ci := 7) (v := .ref a5) (C := RX10) (T := TX10) (N := 10) hx hb hts ifX10_mean_X10 hown hK hP 15 rfl rfl 0 (by decide) (hts (.fieldLink RX10 10 "HookPier" "plan" "LHookPier$Plan;") (List.mem_of_getElem? (i := 8) rfl)) (fun _ h9 => h9) rfl (zat zrX10_mean_0_ok 11 rfl) ?_
    refine lv_aload_n hx hb (zat zrX10_mean_0_ok 12 rfl) rfl (lv_at hl 0 rfl) ?_
    refine va_get (D := (dC, dI)) (ci := 7) (v := .ref a6) (C := RX10) (T := TX10) (N := 10) hx hb hts ifX10_mean_X10 hown hK hP 15 rfl rfl 3 (by decide) (hts (.fieldLink RX10 29 "HookPier" "now" "LHookPier$Now;") (List.mem_of_getElem? (i := 9) rfl)) (fun _ h9 => h9) rfl (zat zrX10_mean_0_ok 13 rfl) ?_
    refine lv_iload_n hx hb (zat zrX10_mean_0_ok 14 rfl) rfl (lv_at hl 1 rfl) ?_
    refine lv_iload_n hx hb (zat zrX10_mean_0_ok 15 rfl) rfl (lv_at hl 2 rfl) ?_
    refine lv_iload_n hx hb (zat zrX10_mean_0_ok 16 rfl) rfl (lv_at hl 3 rfl) ?_
    obtain ⟨o29, eo29⟩ : ∃ o, o = f_X10_question k1 k2 k3 := ⟨_, rfl⟩
    have h := nm_of h o29 eo29
    refine ck_i (wc := []) (wr := (bX4 a6 un kn n_n (bX6 a5 up kp p_p ([(a0, .inr (7, [.ref a5, g12, g13, .ref a6, g14, g15, g16, g17, .int o8.2.1, .int o8.2.2]))])))) hP hD hK hS hA [] [0, 1, 2, 3, 4, 5, 6, 7, 8, 9, 10, 11, 12, 13, 14, 15] rfl rfl (by decide) (by decide) (by decide) (fun hPc hDc => (va_runS (As := [.int k1, .int k2, .int k3]) (rest := [.ref a6, .ref a5]) ⟨hx, hb, hml, hown, hts⟩ (kfX10_question l dC dI k1 k2 k3 H.size o29 eo29.symm) (va_cwS 3 hts gfX10_mean_2 rfl rfl rfl (by decide +kernel) ⟨(Nat.le_of_ble_eq_true rfl), (Nat.le_of_ble_eq_true rfl)⟩) (PS hPc (hK.sub (tys' := ([])) [] rfl) hDc hN) rfl rfl hl.1 rfl (lv_room (Nat.le_of_ble_eq_true rfl)) (zat zrX10_mean_0_ok 17 rfl) ⟨(Nat.le_of_ble_eq_true rfl), (Nat.le_of_ble_eq_true rfl)⟩)) (fun r29 _ H locs hw hP hD _ hS => ?_)
    obtain rfl := hw.symm
    obtain ⟨hP, hD⟩ := pd_mk (bX4 a6 un kn n_n (bX6 a5 up kp p_p ([(a0, .inr (7, [.ref a5, g12, g13, .ref a6, g14, g15, g16, g17, .int o8.2.1, .int o8.2.2]))]))) hP hD
    obtain ⟨o32, eo32, h⟩ := bd_of h
    refine ck_l (wc := (bX6 a5 up kp p_p (bX4 a6 un kn n_n []))) (wr := ([(a0, .inr (7, [.ref a5, g12, g13, .ref a6, g14, g15, g16, g17, .int o8.2.1, .int o8.2.2]))])) hP hD hK hS hA [5, 6, 7, 8, 9, 10, 11, 12, 13, 14, 0, 1, 2, 3, 4] [15] rfl rfl (by decide) (by decide) (by decide) (fun hPc hDc => (va_runS (As := [.ref a5, .ref a6, .int o29]) (rest := []) ⟨hx, hb, hml, hown, hts⟩ (kfX5_meanWorth l dC dI a5 a6 o29 up kp un kn p_p n_n H.size o32 eo32) (va_cwS 3 hts gfX10_mean_3 rfl rfl rfl (by decide +kernel) ⟨(Nat.le_of_ble_eq_true rfl), (Nat.le_of_ble_eq_true rfl)⟩) (PS hPc (hK.sub (tys' := (tX6 kp (tX4 kn ([])))) [0, 1, 2, 3, 4, 5, 6, 7, 8, 9, 10, 11, 12] rfl) hDc hN) rfl rfl hl.1 rfl (lv_room (Nat.le_of_ble_eq_true rfl)) (zat zrX10_mean_0_ok 18 rfl) ⟨(Nat.le_of_ble_eq_true rfl), (Nat.le_of_ble_eq_true rfl)⟩)) (fun r32 _ H locs hw hP hD _ hS => ?_)
    obtain rfl := hw.symm
    obtain ⟨hP, hD⟩ := pd_mk ((a0, .inr (7, [.ref a5, g12, g13, .ref a6, g14, g15, g16, g17, .int o8.2.1, .int o8.2.2])) :: bX6 a5 up kp p_p (bX4 a6 un kn n_n [])) hP hD
    refine lv_iload hx hb (zat zrX10_mean_0_ok 19 rfl) (lv_at hl 4 rfl) ?_
    obtain ⟨o37, eo37, h⟩ := bd_of h
    refine ck_l (wc := []) (wr := ((a0, .inr (7, [.ref a5, g12, g13, .ref a6, g14, g15, g16, g17, .int o8.2.1, .int o8.2.2])) :: bX6 a5 up kp p_p (bX4 a6 un kn n_n []))) hP hD hK hS hA [] [0, 1, 2, 3, 4, 5, 6, 7, 8, 9, 10, 11, 12, 13, 14, 15] rfl rfl (by decide) (by decide) (by decide) (fun hPc hDc => (va_runS (As := [.long o32, .int k4]) (rest := []) ⟨hx, hb, hml, hown, hts⟩ (kfX5_term l dC dI o32 k4 H.size o37 eo37) (va_cwS 2 hts gfX10_mean_4 rfl rfl rfl (by decide +kernel) ⟨(Nat.le_of_ble_eq_true rfl), (Nat.le_of_ble_eq_true rfl)⟩) (PS hPc (hK.sub (tys' := ([])) [] rfl) hDc hN) rfl rfl hl.1 rfl (lv_room (Nat.le_of_ble_eq_true rfl)) (zat zrX10_mean_0_ok 20 rfl) ⟨(Nat.le_of_ble_eq_true rfl), (Nat.le_of_ble_eq_true rfl)⟩)) (fun r37 _ H locs hw hP hD _ hS => ?_)
    obtain rfl := hw.symm
    obtain ⟨hP, hD⟩ := pd_mk ((a0, .inr (7, [.ref a5, g12, g13, .ref a6, g14, g15, g16, g17, .int o8.2.1, .int o8.2.2])) :: bX6 a5 up kp p_p (bX4 a6 un kn n_n [])) hP hD
    obtain rfl := Option.some.inj h
    obtain ⟨hP9, hD9⟩ := pd_sub ((a0, .inr (7, [.ref a5, g12, g13, .ref a6, g14, g15, g16, g17, .int o8.2.1, .int o8.2.2])) :: bX6 a5 up kp p_p (bX4 a6 un kn n_n [])) [0, 1, 2, 3, 4, 5, 6, 7, 8, 9, 10, 11, 12, 13, 14, 15] hP hD (by decide) rfl
    have hK9 := hK.sub (tys' := []) [] rfl
    rw [hQQ]
    exact W.lret (v := o37) hx hb hr (fun t ht hW => ⟨⟨o37, (), rfl, rfl, by rw [ht]; exact hP9, va_K.moved hW.alike hK9, hD9⟩, hS.F ht⟩) hS.2.2 (zat zrX10_mean_0_ok 21 rfl)
  · have h := (if_neg c11).symm.trans h
    refine lv_ldc2 hx hb hown (hts (.constantLong RX10 187 (-1)) (List.mem_of_getElem? (i := 17) rfl)) (zat zrX10_mean_0_ok 8 rfl) ?_
    obtain rfl := Option.some.inj h
    obtain ⟨hP9, hD9⟩ := pd_sub ((a0, .inr (7, [.ref a5, g12, g13, .ref a6, g14, g15, g16, g17, .int o8.2.1, .int o8.2.2])) :: bX6 a5 up kp p_p (bX4 a6 un kn n_n [])) [15, 5, 6, 7, 8, 9, 10, 11, 12, 13, 14, 0, 1, 2, 3, 4] hP hD (by decide) rfl
    have hK9 := hK.sub (tys' := []) [] rfl
    rw [hQQ]
    exact W.lret (v := (-1 : Int64)) hx hb hr (fun t ht hW => ⟨⟨(-1 : Int64), (), rfl, rfl, by rw [ht]; exact hP9, va_K.moved hW.alike hK9, hD9⟩, hS.F ht⟩) hS.2.2 (zat zrX10_mean_0_ok 9 rfl)
noncomputable def zrX5_likeliestTaker_0 : List ZR := zc 0 true (.bipush (-2)) 2 (zc 2 true (.istore_n 3) 1 (zc 3 true (.lconst 0) 1 (zc 4 true (.lstore 4) 2 (zc 6 true (.iconst 0) 1 (zc 7 true (.istore 6) 2 (zc 9 true (.iload 6) 2 (zc 11 true (.aload_n 0) 1 (zc 12 true (.getfield 11) 3 (zc 15 true (.if_icmp .ge 34) 3 (zc 18 true (.aload_n 0) 1 (zc 19 true (.aload_n 1) 1 (zc 20 true (.iload 6) 2 (zc 22 true (.iload_n 2) 1 (zc 23 true (.invokestatic 35) 3 (zc 26 true (.lstore 7) 2 (zc 28 true (.lload 7) 2 (zc 30 true (.lload 4) 2 (zc 32 true (.lcmp) 1 (zc 33 true (.ifCond .le 10) 3 (zc 36 true (.lload 7) 2 (zc 38 true (.lstore 4) 2 (zc 40 true (.iload 6) 2 (zc 42 true (.istore_n 3) 1 (zc 43 true (.iinc 6 1) 3 (zc 46 true (.goto (-37)) 3 (zc 49 true (.iload_n 3) 1 (zc 50 true (.ireturn) 1 ([]))))))))))))))))))))))))))))
theorem zrX5_likeliestTaker_0_ok : zck 0 ((zby cX5_likeliestTaker).drop 0) zrX5_likeliestTaker_0 = true := by decide +kernel
def vfX5_likeliestTaker : List Cond := List.cons (.code yX5_likeliestTaker cX5_likeliestTaker 9 (some .int)) (apW [.fieldLink RX5 11 "HookPier$Plan" "answers" "I", .methodLink RX5 35 yX5_chance, .static yX5_chance, .initialized RX5] (apW wsX60 (vfX5_chance)))
theorem ifX5_likeliestTaker_X6 : ∀ w ∈ wsX60, w ∈ vfX5_likeliestTaker := fun _ h => (List.mem_cons_of_mem _ (List.mem_append_right _ (List.mem_append_left _ h)))
theorem qfX5_likeliestTaker : Good vfX5_likeliestTaker := gd_cons (by decide +kernel) (gd_app (gd_dec (by decide +kernel) : Good [.fieldLink RX5 11 "HookPier$Plan" "answers" "I", .methodLink RX5 35 yX5_chance, .static yX5_chance, .initialized RX5]) (gd_app qsX6 qfX5_chance))
theorem gfX5_likeliestTaker_0 : GoodIn vfX5_likeliestTaker (va_wsS RX5 35 yX5_chance vfX5_chance) := goodIn_app (goodIn_r [.methodLink RX5 35 yX5_chance, .static yX5_chance, .initialized RX5] [2, 3, 4] rfl (by decide +kernel)) (goodIn_m (fun _ h => (List.mem_cons_of_mem _ (List.mem_append_right _ (List.mem_append_right _ h)))) qfX5_chance)
set_option maxHeartbeats 2000000 in
set_option maxRecDepth 100000 in
theorem kfX5_likeliestTaker (l : Launch) (dC : Nat → ClassId) (dI : Nat → Nat → Nat) (a0 : Nat) (a1 : Nat) (k2 : Int32) (up : Nat → Nat) (kp : Nat → ClassId) (un : Nat → Nat) (kn : Nat → ClassId) (p_p : TX6_p) (n_n : TX4_n) (sz : Nat) (out : Int32) (h : f_X5_likeliestTaker k2 p_p n_n = some out) : KDi l yX5_likeliestTaker vfX5_likeliestTaker ({ frames := 4, cells := 0, slots := 0, locals := 95 }) (dC, dI) [.ref a0, .ref a1, .int k2] sz (bX6 a0 up kp p_p (bX4 a1 un kn n_n [])) (tX6 kp (tX4 kn ([]))) (fun (r : Int32) _ => r = out) 0 0 := by
  refine Met.ofW (cc := cX5_likeliestTaker) (maxL := 9) (ret := (some .int)) (by decide) rfl ?_
  intro p e s m args below meth c s₁ B0 hml hv
  obtain ⟨rfl, hsz, hP, hK, hD0, hN⟩ := hv
  have hx := B0.exec
  have hb := B0.bytes
  have hr := B0.returns
  have hts := atoms_spec (ws := vfX5_likeliestTaker) B0.pre
  have hown : s.vm.findClass RX5 = some m.cls := findClass_of_methodNamed B0.named
  have hlocks := B0.notSynchronized
  subst hsz
  have hD := hD0.self (sz := s.heap.size)
  generalize hAe : va_A (bX6 a0 up kp p_p (bX4 a1 un kn n_n [])) s.heap.size = A at hD ⊢
  have hA : ∀ q : Nat, s.heap.size ≤ q → A q := fun q h => by rw [← hAe]; exact Or.inr h
  have hS : va_S A s.heap s.heap [] := va_S.rf
  have hP : va_P (dC, dI) vwCl (bX6 a0 up kp p_p (bX4 a1 un kn n_n [])) s.heap := hP
  have hl := lv_entry ([.ref a0, .ref a1, .int k2]) (n := 9) (Nat.le_of_ble_eq_true rfl)
  rw [lg_entry_eq]
  generalize (lg_sl ([.ref a0, .ref a1, .int k2]) ++ List.replicate (9 - (lg_sl ([.ref a0, .ref a1, .int k2])).length) Slot.unset).toArray = ls at hl ⊢
  have hl : lv_has ls 9 [(0, .ref a0), (1, .ref a1), (2, .int k2)] := hl
  refine W_q (fun QQ hQQ => ?_)
  rw [f_X5_likeliestTaker] at h
  refine lv_bipush (v := (-2)) hx hb (zat zrX5_likeliestTaker_0_ok 0 rfl) (by decide) ?_
  refine lv_istore_n (lv' := [(3, .int (-2)), (0, .ref a0), (1, .ref a1), (2, .int k2)]) hx hb (zat zrX5_likeliestTaker_0_ok 1 rfl) rfl hl (by decide) rfl (fun ls hl => ?_)
  refine lv_lconst (v := 0) hx hb (zat zrX5_likeliestTaker_0_ok 2 rfl) (by decide) ?_
  refine lv_lstore (lv' := [(4, .long 0), (3, .int (-2)), (0, .ref a0), (1, .ref a1), (2, .int k2)]) hx hb (zat zrX5_likeliestTaker_0_ok 3 rfl) hl (by decide) rfl (fun ls hl => ?_)
  refine lv_iconst (v := 0) hx hb (zat zrX5_likeliestTaker_0_ok 4 rfl) (by decide) ?_
  refine lv_istore (lv' := [(6, .int 0), (4, .long 0), (3, .int (-2)), (0, .ref a0), (1, .ref a1), (2, .int k2)]) hx hb (zat zrX5_likeliestTaker_0_ok 5 rfl) hl (by decide) rfl (fun ls hl => ?_)
  have L9 : ∀ (n9 : Nat) (v9_l6 : Int32) (v9_l4 : Int64) (v9_l3 : Int32) (H : Heap) (locs : List Loc) (ls : Array Slot), f_X5_likeliestTaker_L9 k2 p_p n_n n9 v9_l6 v9_l4 v9_l3 = some out → va_P (dC, dI) vwCl (bX6 a0 up kp p_p (bX4 a1 un kn n_n [])) H → va_D A (bX6 a0 up kp p_p (bX4 a1 un kn n_n [])) → va_S A s.heap H locs → lv_has ls 9 [(6, .int v9_l6), (4, .long v9_l4), (3, .int v9_l3), (0, .ref a0), (1, .ref a1), (2, .int k2)] → W p l e (headSpec vfX5_likeliestTaker { frames := 4, cells := 0, slots := 0, locals := 95 }).room s m ([.ref a0, .ref a1, .int k2]).toArray below meth c H locs 0 0 QQ (F0 m 9 ls []) := by
    intro n9
    induction n9 with
    | zero =>
      intro v9_l6 v9_l4 v9_l3 H locs ls h  _ _ _ _
      rw [f_X5_likeliestTaker_L9] at h
      cases h
    | succ n9 ih9 =>
      intro v9_l6 v9_l4 v9_l3 H locs ls h  hP hD hS hl
      rw [f_X5_likeliestTaker_L9] at h
      refine lv_iload hx hb (zat zrX5_likeliestTaker_0_ok 6 rfl) (lv_at hl 0 rfl) ?_
      refine lv_aload_n hx hb (zat zrX5_likeliestTaker_0_ok 7 rfl) rfl (lv_at hl 3 rfl) ?_
      refine va_get (D := (dC, dI)) (ci := 4) (v := .int p_p.2.2.2.2.2.2.1) (C := RX6) (T := TX6) (N := 18) hx hb hts ifX5_likeliestTaker_X6 hown hK hP 0 rfl rfl 6 (by decide) (hts (.fieldLink RX5 11 "HookPier$Plan" "answers" "I") (List.mem_of_getElem? (i := 1) rfl)) (fun _ h9 => h9) rfl (zat zrX5_likeliestTaker_0_ok 8 rfl) ?_
      refine lv_icmp_ge (tgt := 49) hx hb (zat zrX5_likeliestTaker_0_ok 9 rfl) (by decide) (fun c15 => ?_) (fun c15 => ?_)
      · have h := (if_pos c15).symm.trans h
        refine lv_iload_n hx hb (zat zrX5_likeliestTaker_0_ok 26 rfl) rfl (lv_at hl 2 rfl) ?_
        obtain rfl := Option.some.inj h
        obtain ⟨hP9, hD9⟩ := pd_sub (bX6 a0 up kp p_p (bX4 a1 un kn n_n [])) [0, 1, 2, 3, 4, 5, 6, 7, 8, 9, 10, 11, 12, 13, 14] hP hD (by decide) rfl
        have hK9 := hK.sub (tys' := []) [] rfl
        rw [hQQ]
        exact W.iret (v := v9_l3) hx hb hr (fun t ht hW => ⟨⟨v9_l3, (), rfl, rfl, by rw [ht]; exact hP9, va_K.moved hW.alike hK9, hD9⟩, hS.F ht⟩) hS.2.2 (zat zrX5_likeliestTaker_0_ok 27 rfl)
      · have h := (if_neg c15).symm.trans h
        refine lv_aload_n hx hb (zat zrX5_likeliestTaker_0_ok 10 rfl) rfl (lv_at hl 3 rfl) ?_
        refine lv_aload_n hx hb (zat zrX5_likeliestTaker_0_ok 11 rfl) rfl (lv_at hl 4 rfl) ?_
        refine lv_iload hx hb (zat zrX5_likeliestTaker_0_ok 12 rfl) (lv_at hl 0 rfl) ?_
        refine lv_iload_n hx hb (zat zrX5_likeliestTaker_0_ok 13 rfl) rfl (lv_at hl 5 rfl) ?_
        obtain ⟨o23, eo23, h⟩ := bd_of h
        refine ck_l (wc := (bX6 a0 up kp p_p (bX4 a1 un kn n_n []))) (wr := []) hP hD hK hS hA [0, 1, 2, 3, 4, 5, 6, 7, 8, 9, 10, 11, 12, 13, 14] [] rfl rfl (by decide) (by decide) (by decide) (fun hPc hDc => (va_runS (As := [.ref a0, .ref a1, .int v9_l6, .int k2]) (rest := []) ⟨hx, hb, hml, hown, hts⟩ (kfX5_chance l dC dI a0 a1 v9_l6 k2 up kp un kn p_p n_n H.size o23 eo23) (va_cwS 4 hts gfX5_likeliestTaker_0 rfl rfl rfl (by decide +kernel) ⟨(Nat.le_of_ble_eq_true rfl), (Nat.le_of_ble_eq_true rfl)⟩) (PS hPc (hK.sub (tys' := (tX6 kp (tX4 kn ([])))) [0, 1, 2, 3, 4, 5, 6, 7, 8, 9, 10, 11, 12] rfl) hDc hN) rfl rfl hl.1 rfl (lv_room (Nat.le_of_ble_eq_true rfl)) (zat zrX5_likeliestTaker_0_ok 14 rfl) ⟨(Nat.le_of_ble_eq_true rfl), (Nat.le_of_ble_eq_true rfl)⟩)) (fun r23 _ H locs hw hP hD _ hS => ?_)
        obtain rfl := hw.symm
        obtain ⟨hP, hD⟩ := pd_mk (bX6 a0 up kp p_p (bX4 a1 un kn n_n [])) hP hD
        refine lv_lstore (lv' := [(7, .long o23), (6, .int v9_l6), (4, .long v9_l4), (3, .int v9_l3), (0, .ref a0), (1, .ref a1), (2, .int k2)]) hx hb (zat zrX5_likeliestTaker_0_ok 15 rfl) hl (by decide) rfl (fun ls hl => ?_)
        refine lv_lload hx hb (zat zrX5_likeliestTaker_0_ok 16 rfl) (lv_at hl 0 rfl) ?_
        refine lv_lload hx hb (zat zrX5_likeliestTaker_0_ok 17 rfl) (lv_at hl 2 rfl) ?_
        refine W.lcmp hx hb (zat zrX5_likeliestTaker_0_ok 18 rfl) ?_
        have J43 : ∀ (v43_l4 : Int64) (v43_l3 : Int32) (H : Heap) (locs : List Loc) (ls : Array Slot), f_X5_likeliestTaker_J43 (f_X5_likeliestTaker_L9 k2 p_p n_n n9) v9_l6 v43_l4 v43_l3 = some out → va_P (dC, dI) vwCl (bX6 a0 up kp p_p (bX4 a1 un kn n_n [])) H → va_D A (bX6 a0 up kp p_p (bX4 a1 un kn n_n [])) → va_S A s.heap H locs → lv_has ls 9 [(6, .int v9_l6), (4, .long v43_l4), (3, .int v43_l3), (0, .ref a0), (1, .ref a1), (2, .int k2)] → W p l e (headSpec vfX5_likeliestTaker { frames := 4, cells := 0, slots := 0, locals := 95 }).room s m ([.ref a0, .ref a1, .int k2]).toArray below meth c H locs 0 0 QQ (F0 m 43 ls []) := by
          intro v43_l4 v43_l3 H locs ls h  hP hD hS hl
          rw [f_X5_likeliestTaker_J43] at h
          refine lv_iinc (v := (v9_l6 + (1 : Int32))) (lv' := [(6, .int (v9_l6 + (1 : Int32))), (4, .long v43_l4), (3, .int v43_l3), (0, .ref a0), (1, .ref a1), (2, .int k2)]) hx hb (zat zrX5_likeliestTaker_0_ok 24 rfl) hl (k := 0) rfl rfl (by decide) rfl (fun ls hl => ?_)
          refine lv_goto (tgt := 9) hx hb (zat zrX5_likeliestTaker_0_ok 25 rfl) (by decide) ?_
          exact ih9 (v9_l6 + (1 : Int32)) v43_l4 v43_l3 H _ ls h  hP hD hS (lv_sub hl [0, 1, 2, 3, 4, 5] rfl)
        refine lv_if_le (tgt := 43) hx hb (zat zrX5_likeliestTaker_0_ok 19 rfl) (by decide) (fun c33 => ?_) (fun c33 => ?_)
        · have h := (if_pos c33).symm.trans h
          exact J43 v9_l4 v9_l3 H _ ls h  hP hD hS (lv_sub hl [1, 2, 3, 4, 5, 6] rfl)
        · have h := (if_neg c33).symm.trans h
          refine lv_lload hx hb (zat zrX5_likeliestTaker_0_ok 20 rfl) (lv_at hl 0 rfl) ?_
          refine lv_lstore (lv' := [(4, .long o23), (7, .long o23), (6, .int v9_l6), (3, .int v9_l3), (0, .ref a0), (1, .ref a1), (2, .int k2)]) hx hb (zat zrX5_likeliestTaker_0_ok 21 rfl) hl (by decide) rfl (fun ls hl => ?_)
          refine lv_iload hx hb (zat zrX5_likeliestTaker_0_ok 22 rfl) (lv_at hl 2 rfl) ?_
          refine lv_istore_n (lv' := [(3, .int v9_l6), (4, .long o23), (7, .long o23), (6, .int v9_l6), (0, .ref a0), (1, .ref a1), (2, .int k2)]) hx hb (zat zrX5_likeliestTaker_0_ok 23 rfl) rfl hl (by decide) rfl (fun ls hl => ?_)
          exact J43 o23 v9_l6 H _ ls h  hP hD hS (lv_sub hl [3, 1, 0, 4, 5, 6] rfl)
  exact L9 FU (0 : Int32) (0 : Int64) (-2 : Int32) s.heap _ ls h  hP hD hS (lv_sub hl [0, 1, 2, 3, 4, 5] rfl)
noncomputable def zrX10_likeliest_0 : List ZR := zc 0 true (.aload_n 0) 1 (zc 1 true (.aload_n 0) 1 (zc 2 true (.iload_n 1) 1 (zc 3 true (.iload_n 2) 1 (zc 4 true (.iload_n 3) 1 (zc 5 true (.invokevirtual 199) 3 (zc 8 true (.invokevirtual 79) 3 (zc 11 true (.ifCond .eq 5) 3 (zc 14 true (.iconst (-1)) 1 (zc 15 true (.ireturn) 1 (zc 16 true (.aload_n 0) 1 (zc 17 true (.getfield 10) 3 (zc 20 true (.aload_n 0) 1 (zc 21 true (.getfield 29) 3 (zc 24 true (.iload_n 1) 1 (zc 25 true (.iload_n 2) 1 (zc 26 true (.iload_n 3) 1 (zc 27 true (.invokestatic 180) 3 (zc 30 true (.invokestatic 206) 3 (zc 33 true (.ireturn) 1 ([]))))))))))))))))))))
theorem zrX10_likeliest_0_ok : zck 0 ((zby cX10_likeliest).drop 0) zrX10_likeliest_0 = true := by decide +kernel
def vfX10_likeliest : List Cond := List.cons (.code yX10_likeliest cX10_likeliest 4 (some .int)) (apW [.methodLink RX10 199 yX10_questionTrouble, .instanceMethod yX10_questionTrouble, .selects RX10 yX10_questionTrouble yX10_questionTrouble, .initialized RX10, .methodLink RX10 79 yX10_refused, .instanceMethod yX10_refused, .selects RX10 yX10_refused yX10_refused, .fieldLink RX10 10 "HookPier" "plan" "LHookPier$Plan;", .fieldLink RX10 29 "HookPier" "now" "LHookPier$Now;", .methodLink RX10 180 yX10_question, .static yX10_question, .methodLink RX10 206 yX5_likeliestTaker, .static yX5_likeliestTaker, .initialized RX5] (apW wsX100 (apW vfX10_questionTrouble (apW vfX10_refused (apW vfX10_question (vfX5_likeliestTaker))))))
theorem ifX10_likeliest_X10 : ∀ w ∈ wsX100, w ∈ vfX10_likeliest := fun _ h => (List.mem_cons_of_mem _ (List.mem_append_right _ (List.mem_append_left _ h)))
theorem qfX10_likeliest : Good vfX10_likeliest := gd_cons (by decide +kernel) (gd_app (gd_dec (by decide +kernel) : Good [.methodLink RX10 199 yX10_questionTrouble, .instanceMethod yX10_questionTrouble, .selects RX10 yX10_questionTrouble yX10_questionTrouble, .initialized RX10, .methodLink RX10 79 yX10_refused, .instanceMethod yX10_refused, .selects RX10 yX10_refused yX10_refused, .fieldLink RX10 10 "HookPier" "plan" "LHookPier$Plan;", .fieldLink RX10 29 "HookPier" "now" "LHookPier$Now;", .methodLink RX10 180 yX10_question, .static yX10_question, .methodLink RX10 206 yX5_likeliestTaker, .static yX5_likeliestTaker, .initialized RX5]) (gd_app qsX10 (gd_app qfX10_questionTrouble (gd_app qfX10_refused (gd_app qfX10_question qfX5_likeliestTaker)))))
theorem gfX10_likeliest_0 : GoodIn vfX10_likeliest (wsV RX10 199 RX10 yX10_questionTrouble vfX10_questionTrouble) := goodIn_app (goodIn_r [.methodLink RX10 199 yX10_questionTrouble, .instanceMethod yX10_questionTrouble, .selects RX10 yX10_questionTrouble yX10_questionTrouble, .initialized RX10] [1, 2, 3, 4] rfl (by decide +kernel)) (goodIn_m (fun _ h => (List.mem_cons_of_mem _ (List.mem_append_right _ (List.mem_append_right _ (List.mem_append_left _ h))))) qfX10_questionTrouble)
theorem gfX10_likeliest_1 : GoodIn vfX10_likeliest (wsV RX10 79 RX10 yX10_refused vfX10_refused) := goodIn_app (goodIn_r [.methodLink RX10 79 yX10_refused, .instanceMethod yX10_refused, .selects RX10 yX10_refused yX10_refused, .initialized RX10] [5, 6, 7, 4] rfl (by decide +kernel)) (goodIn_m (fun _ h => (List.mem_cons_of_mem _ (List.mem_append_right _ (List.mem_append_right _ (List.mem_append_right _ (List.mem_append_left _ h)))))) qfX10_refused)
theorem gfX10_likeliest_2 : GoodIn vfX10_likeliest (va_wsS RX10 180 yX10_question vfX10_question) := goodIn_app (goodIn_r [.methodLink RX10 180 yX10_question, .static yX10_question, .initialized RX10] [10, 11, 4] rfl (by decide +kernel)) (goodIn_m (fun _ h => (List.mem_cons_of_mem _ (List.mem_append_right _ (List.mem_append_right _ (List.mem_append_right _ (List.mem_append_right _ (List.mem_append_left _ h))))))) qfX10_question)
theorem gfX10_likeliest_3 : GoodIn vfX10_likeliest (va_wsS RX10 206 yX5_likeliestTaker vfX5_likeliestTaker) := goodIn_app (goodIn_r [.methodLink RX10 206 yX5_likeliestTaker, .static yX5_likeliestTaker, .initialized RX5] [12, 13, 14] rfl (by decide +kernel)) (goodIn_m (fun _ h => (List.mem_cons_of_mem _ (List.mem_append_right _ (List.mem_append_right _ (List.mem_append_right _ (List.mem_append_right _ (List.mem_append_right _ h))))))) qfX5_likeliestTaker)
set_option maxHeartbeats 2000000 in
set_option maxRecDepth 100000 in
theorem kfX10_likeliest (l : Launch) (dC : Nat → ClassId) (dI : Nat → Nat → Nat) (a0 : Nat) (k1 : Int32) (k2 : Int32) (k3 : Int32) (a4 : Nat) (a5 : Nat) (up : Nat → Nat) (kp : Nat → ClassId) (un : Nat → Nat) (kn : Nat → ClassId) (x_x : TX10_x) (g11 : Value) (g12 : Value) (g13 : Value) (g14 : Value) (g15 : Value) (g16 : Value) (p_p : TX6_p) (n_n : TX4_n) (sz : Nat) (out : (Int32 × TX10_x)) (h : f_X10_likeliest k1 k2 k3 x_x p_p n_n = some out) : KCi l yX10_likeliest vfX10_likeliest ({ frames := 5, cells := 0, slots := 0, locals := 123 }) (dC, dI) [.ref a0, .int k1, .int k2, .int k3] sz ((a0, .inr (7, [.ref a4, g11, g12, .ref a5, g13, g14, g15, g16, .int x_x.1, .int x_x.2])) :: bX6 a4 up kp p_p (bX4 a5 un kn n_n [])) (tX6 kp (tX4 kn ([]))) (fun (r : Int32) _ => r = out.1) ((a0, .inr (7, [.ref a4, g11, g12, .ref a5, g13, g14, g15, g16, .int out.2.1, .int out.2.2])) :: bX6 a4 up kp p_p (bX4 a5 un kn n_n [])) 0 0 := by
  refine Met.ofW (cc := cX10_likeliest) (maxL := 4) (ret := (some .int)) (by decide) rfl ?_
  intro p e s m args below meth c s₁ B0 hml hv
  obtain ⟨rfl, hsz, hP, hK, hD0, hN⟩ := hv
  have hx := B0.exec
  have hb := B0.bytes
  have hr := B0.returns
  have hts := atoms_spec (ws := vfX10_likeliest) B0.pre
  have hown : s.vm.findClass RX10 = some m.cls := findClass_of_methodNamed B0.named
  have hlocks := B0.notSynchronized
  subst hsz
  have hD := hD0.self (sz := s.heap.size)
  generalize hAe : va_A ((a0, .inr (7, [.ref a4, g11, g12, .ref a5, g13, g14, g15, g16, .int x_x.1, .int x_x.2])) :: bX6 a4 up kp p_p (bX4 a5 un kn n_n [])) s.heap.size = A at hD ⊢
  have hA : ∀ q : Nat, s.heap.size ≤ q → A q := fun q h => by rw [← hAe]; exact Or.inr h
  have hS : va_S A s.heap s.heap [] := va_S.rf
  have hP : va_P (dC, dI) vwCl ((a0, .inr (7, [.ref a4, g11, g12, .ref a5, g13, g14, g15, g16, .int x_x.1, .int x_x.2])) :: bX6 a4 up kp p_p (bX4 a5 un kn n_n [])) s.heap := hP
  have hl := lv_entry ([.ref a0, .int k1, .int k2, .int k3]) (n := 4) (Nat.le_of_ble_eq_true rfl)
  rw [lg_entry_eq]
  generalize (lg_sl ([.ref a0, .int k1, .int k2, .int k3]) ++ List.replicate (4 - (lg_sl ([.ref a0, .int k1, .int k2, .int k3])).length) Slot.unset).toArray = ls at hl ⊢
  have hl : lv_has ls 4 [(0, .ref a0), (1, .int k1), (2, .int k2), (3, .int k3)] := hl
  refine W_q (fun QQ hQQ => ?_)
  rw [f_X10_likeliest] at h
  refine lv_aload_n hx hb (zat zrX10_likeliest_0_ok 0 rfl) rfl (lv_at hl 0 rfl) ?_
  refine lv_aload_n hx hb (zat zrX10_likeliest_0_ok 1 rfl) rfl (lv_at hl 0 rfl) ?_
  refine lv_iload_n hx hb (zat zrX10_likeliest_0_ok 2 rfl) rfl (lv_at hl 1 rfl) ?_
  refine lv_iload_n hx hb (zat zrX10_likeliest_0_ok 3 rfl) rfl (lv_at hl 2 rfl) ?_
  refine lv_iload_n hx hb (zat zrX10_likeliest_0_ok 4 rfl) rfl (lv_at hl 3 rfl) ?_
  obtain ⟨o5, eo5⟩ : ∃ o, o = f_X10_questionTrouble k1 k2 k3 p_p := ⟨_, rfl⟩
  have h := nm_of h o5 eo5
  refine ck_i (wc := ((a0, .inr (7, [.ref a4, g11, g12, .ref a5, g13, g14, g15, g16, .int x_x.1, .int x_x.2])) :: bX6 a4 up kp p_p [])) (wr := (bX4 a5 un kn n_n [])) hP hD hK hS hA [0, 1, 2, 3, 4, 5, 6, 7, 8, 9, 10] [11, 12, 13, 14, 15] rfl rfl (by decide) (by decide) (by decide) (fun hPc hDc => (va_runV (As := [.int k1, .int k2, .int k3]) (rest := [.ref a0]) ⟨hx, hb, hml, hown, hts⟩ (kfX10_questionTrouble l dC dI a0 k1 k2 k3 a4 up kp (g11) (g12) (.ref a5) (g13) (g14) (g15) (g16) (.int x_x.1) (.int x_x.2) p_p s.heap.size o5 eo5.symm) (cwV 3 hts gfX10_likeliest_0 rfl rfl rfl (by decide +kernel) ⟨(Nat.le_of_ble_eq_true rfl), (Nat.le_of_ble_eq_true rfl)⟩) (PV hPc (hK.sub (tys' := (tX6 kp ([]))) [0, 1, 2, 3, 4, 5, 6, 7, 8] rfl) hDc hN 0 rfl rfl) rfl rfl hl.1 rfl (lv_room (Nat.le_of_ble_eq_true rfl)) (zat zrX10_likeliest_0_ok 5 rfl) ⟨(Nat.le_of_ble_eq_true rfl), (Nat.le_of_ble_eq_true rfl)⟩)) (fun r5 _ H locs hw hP hD _ hS => ?_)
  obtain rfl := hw.symm
  obtain ⟨hP, hD⟩ := pd_mk (bX4 a5 un kn n_n ((a0, .inr (7, [.ref a4, g11, g12, .ref a5, g13, g14, g15, g16, .int x_x.1, .int x_x.2])) :: bX6 a4 up kp p_p [])) hP hD
  obtain ⟨o8, eo8⟩ : ∃ o, o = f_X10_refused o5 x_x := ⟨_, rfl⟩
  have h := nm_of h o8 eo8
  refine ck_i (wc := ([(a0, .inr (7, [.ref a4, g11, g12, .ref a5, g13, g14, g15, g16, .int x_x.1, .int x_x.2]))])) (wr := (bX4 a5 un kn n_n (bX6 a4 up kp p_p []))) hP hD hK hS hA [5] [0, 1, 2, 3, 4, 6, 7, 8, 9, 10, 11, 12, 13, 14, 15] rfl rfl (by decide) (by decide) (by decide) (fun hPc hDc => (va_runV (As := [.int o5]) (rest := []) ⟨hx, hb, hml, hown, hts⟩ (kfX10_refused l dC dI a0 o5 x_x (.ref a4) (g11) (g12) (.ref a5) (g13) (g14) (g15) (g16) H.size o8 eo8.symm) (cwV 1 hts gfX10_likeliest_1 rfl rfl rfl (by decide +kernel) ⟨(Nat.le_of_ble_eq_true rfl), (Nat.le_of_ble_eq_true rfl)⟩) (PV hPc (hK.sub (tys' := ([])) [] rfl) hDc hN 0 rfl rfl) rfl rfl hl.1 rfl (lv_room (Nat.le_of_ble_eq_true rfl)) (zat zrX10_likeliest_0_ok 6 rfl) ⟨(Nat.le_of_ble_eq_true rfl), (Nat.le_of_ble_eq_true rfl)⟩)) (fun r8 _ H locs hw hP hD _ hS => ?_)
  obtain ⟨hw, br8⟩ := hw
  obtain rfl := hw
  obtain ⟨hP, hD⟩ := pd_mk (bX4 a5 un kn n_n (bX6 a4 up kp p_p ([(a0, .inr (7, [.ref a4, g11, g12, .ref a5, g13, g14, g15, g16, .int o8.2.1, .int o8.2.2]))]))) hP hD
  refine lv_if_eq (tgt := 16) hx hb (zat zrX10_likeliest_0_ok 7 rfl) (by decide) (fun c11 => ?_) (fun c11 => ?_)
  · have h := (if_pos c11).symm.trans h
    refine lv_aload_n hx hb (zat zrX10_likeliest_0_ok 10 rfl) rfl (lv_at hl 0 rfl) ?_
    refine va_get (D := (dC, dI)) (ci := 7) (v := .ref a4) (C := RX10) (T := TX10) (N := 10) hx hb hts ifX10_likeliest_X10 hown hK hP 15 rfl rfl 0 (by decide) (hts (.fieldLink RX10 10 "HookPier" "plan" "LHookPier$Plan;") (List.mem_of_getElem? (i := 8) rfl)) (fun _ h9 => h9) rfl (zat zrX10_likeliest_0_ok 11 rfl) ?_
    refine lv_aload_n hx hb (zat zrX10_likeliest_0_ok 12 rfl) rfl (lv_at hl 0 rfl) ?_
    refine va_get (D := (dC, dI)) (ci := 7) (v := .ref a5) (C := RX10) (T := TX10) (N := 10) hx hb hts ifX10_likeliest_X10 hown hK hP 15 rfl rfl 3 (by decide) (hts (.fieldLink RX10 29 "HookPier" "now" "LHookPier$Now;") (List.mem_of_getElem? (i := 9) rfl)) (fun _ h9 => h9) rfl (zat zrX10_likeliest_0_ok 13 rfl) ?_
    refine lv_iload_n hx hb (zat zrX10_likeliest_0_ok 14 rfl) rfl (lv_at hl 1 rfl) ?_
    refine lv_iload_n hx hb (zat zrX10_likeliest_0_ok 15 rfl) rfl (lv_at hl 2 rfl) ?_
    refine lv_iload_n hx hb (zat zrX10_likeliest_0_ok 16 rfl) rfl (lv_at hl 3 rfl) ?_
    obtain ⟨o27, eo27⟩ : ∃ o, o = f_X10_question k1 k2 k3 := ⟨_, rfl⟩
    have h := nm_of h o27 eo27
    refine ck_i (wc := []) (wr := (bX4 a5 un kn n_n (bX6 a4 up kp p_p ([(a0, .inr (7, [.ref a4, g11, g12, .ref a5, g13, g14, g15, g16, .int o8.2.1, .int o8.2.2]))])))) hP hD hK hS hA [] [0, 1, 2, 3, 4, 5, 6, 7, 8, 9, 10, 11, 12, 13, 14, 15] rfl rfl (by decide) (by decide) (by decide) (fun hPc hDc => (va_runS (As := [.int k1, .int k2, .int k3]) (rest := [.ref a5, .ref a4]) ⟨hx, hb, hml, hown, hts⟩ (kfX10_question l dC dI k1 k2 k3 H.size o27 eo27.symm) (va_cwS 3 hts gfX10_likeliest_2 rfl rfl rfl (by decide +kernel) ⟨(Nat.le_of_ble_eq_true rfl), (Nat.le_of_ble_eq_true rfl)⟩) (PS hPc (hK.sub (tys' := ([])) [] rfl) hDc hN) rfl rfl hl.1 rfl (lv_room (Nat.le_of_ble_eq_true rfl)) (zat zrX10_likeliest_0_ok 17 rfl) ⟨(Nat.le_of_ble_eq_true rfl), (Nat.le_of_ble_eq_true rfl)⟩)) (fun r27 _ H locs hw hP hD _ hS => ?_)
    obtain rfl := hw.symm
    obtain ⟨hP, hD⟩ := pd_mk (bX4 a5 un kn n_n (bX6 a4 up kp p_p ([(a0, .inr (7, [.ref a4, g11, g12, .ref a5, g13, g14, g15, g16, .int o8.2.1, .int o8.2.2]))]))) hP hD
    obtain ⟨o30, eo30, h⟩ := bd_of h
    refine ck_i (wc := (bX6 a4 up kp p_p (bX4 a5 un kn n_n []))) (wr := ([(a0, .inr (7, [.ref a4, g11, g12, .ref a5, g13, g14, g15, g16, .int o8.2.1, .int o8.2.2]))])) hP hD hK hS hA [5, 6, 7, 8, 9, 10, 11, 12, 13, 14, 0, 1, 2, 3, 4] [15] rfl rfl (by decide) (by decide) (by decide) (fun hPc hDc => (va_runS (As := [.ref a4, .ref a5, .int o27]) (rest := []) ⟨hx, hb, hml, hown, hts⟩ (kfX5_likeliestTaker l dC dI a4 a5 o27 up kp un kn p_p n_n H.size o30 eo30) (va_cwS 3 hts gfX10_likeliest_3 rfl rfl rfl (by decide +kernel) ⟨(Nat.le_of_ble_eq_true rfl), (Nat.le_of_ble_eq_true rfl)⟩) (PS hPc (hK.sub (tys' := (tX6 kp (tX4 kn ([])))) [0, 1, 2, 3, 4, 5, 6, 7, 8, 9, 10, 11, 12] rfl) hDc hN) rfl rfl hl.1 rfl (lv_room (Nat.le_of_ble_eq_true rfl)) (zat zrX10_likeliest_0_ok 18 rfl) ⟨(Nat.le_of_ble_eq_true rfl), (Nat.le_of_ble_eq_true rfl)⟩)) (fun r30 _ H locs hw hP hD _ hS => ?_)
    obtain rfl := hw.symm
    obtain ⟨hP, hD⟩ := pd_mk ((a0, .inr (7, [.ref a4, g11, g12, .ref a5, g13, g14, g15, g16, .int o8.2.1, .int o8.2.2])) :: bX6 a4 up kp p_p (bX4 a5 un kn n_n [])) hP hD
    obtain rfl := Option.some.inj h
    obtain ⟨hP9, hD9⟩ := pd_sub ((a0, .inr (7, [.ref a4, g11, g12, .ref a5, g13, g14, g15, g16, .int o8.2.1, .int o8.2.2])) :: bX6 a4 up kp p_p (bX4 a5 un kn n_n [])) [0, 1, 2, 3, 4, 5, 6, 7, 8, 9, 10, 11, 12, 13, 14, 15] hP hD (by decide) rfl
    have hK9 := hK.sub (tys' := []) [] rfl
    rw [hQQ]
    exact W.iret (v := o30) hx hb hr (fun t ht hW => ⟨⟨o30, (), rfl, rfl, by rw [ht]; exact hP9, va_K.moved hW.alike hK9, hD9⟩, hS.F ht⟩) hS.2.2 (zat zrX10_likeliest_0_ok 19 rfl)
  · have h := (if_neg c11).symm.trans h
    refine lv_iconst (v := (-1)) hx hb (zat zrX10_likeliest_0_ok 8 rfl) (by decide) ?_
    obtain rfl := Option.some.inj h
    obtain ⟨hP9, hD9⟩ := pd_sub ((a0, .inr (7, [.ref a4, g11, g12, .ref a5, g13, g14, g15, g16, .int o8.2.1, .int o8.2.2])) :: bX6 a4 up kp p_p (bX4 a5 un kn n_n [])) [15, 5, 6, 7, 8, 9, 10, 11, 12, 13, 14, 0, 1, 2, 3, 4] hP hD (by decide) rfl
    have hK9 := hK.sub (tys' := []) [] rfl
    rw [hQQ]
    exact W.iret (v := (-1 : Int32)) hx hb hr (fun t ht hW => ⟨⟨(-1 : Int32), (), rfl, rfl, by rw [ht]; exact hP9, va_K.moved hW.alike hK9, hD9⟩, hS.F ht⟩) hS.2.2 (zat zrX10_likeliest_0_ok 9 rfl)
noncomputable def zrX10_thereTrouble_0 : List ZR := zc 0 true (.aload_n 0) 1 (zc 1 true (.iload_n 1) 1 (zc 2 true (.invokevirtual 102) 3 (zc 5 true (.istore_n 2) 1 (zc 6 true (.iload_n 2) 1 (zc 7 true (.ifCond .ne 19) 3 (zc 10 true (.aload_n 0) 1 (zc 11 true (.getfield 29) 3 (zc 14 true (.getfield 125) 3 (zc 17 true (.iload_n 1) 1 (zc 18 true (.iaload) 1 (zc 19 true (.ifCond .eq 7) 3 (zc 22 true (.iconst 5) 1 (zc 23 true (.goto 4) 3 (zc 26 true (.iload_n 2) 1 (zc 27 true (.ireturn) 1 ([]))))))))))))))))
theorem zrX10_thereTrouble_0_ok : zck 0 ((zby cX10_thereTrouble).drop 0) zrX10_thereTrouble_0 = true := by decide +kernel
def vfX10_thereTrouble : List Cond := List.cons (.code yX10_thereTrouble cX10_thereTrouble 3 (some .int)) (apW [.methodLink RX10 102 yX10_answerTrouble, .instanceMethod yX10_answerTrouble, .selects RX10 yX10_answerTrouble yX10_answerTrouble, .initialized RX10, .fieldLink RX10 29 "HookPier" "now" "LHookPier$Now;", .fieldLink RX10 125 "HookPier$Now" "stage" "[I"] (apW wsX100 (apW wsX40 (vfX10_answerTrouble))))
theorem ifX10_thereTrouble_X10 : ∀ w ∈ wsX100, w ∈ vfX10_thereTrouble := fun _ h => (List.mem_cons_of_mem _ (List.mem_append_right _ (List.mem_append_left _ h)))
theorem ifX10_thereTrouble_X4 : ∀ w ∈ wsX40, w ∈ vfX10_thereTrouble := fun _ h => (List.mem_cons_of_mem _ (List.mem_append_right _ (List.mem_append_right _ (List.mem_append_left _ h))))
theorem qfX10_thereTrouble : Good vfX10_thereTrouble := gd_cons (by decide +kernel) (gd_app (gd_dec (by decide +kernel) : Good [.methodLink RX10 102 yX10_answerTrouble, .instanceMethod yX10_answerTrouble, .selects RX10 yX10_answerTrouble yX10_answerTrouble, .initialized RX10, .fieldLink RX10 29 "HookPier" "now" "LHookPier$Now;", .fieldLink RX10 125 "HookPier$Now" "stage" "[I"]) (gd_app qsX10 (gd_app qsX4 qfX10_answerTrouble)))
theorem gfX10_thereTrouble_0 : GoodIn vfX10_thereTrouble (wsV RX10 102 RX10 yX10_answerTrouble vfX10_answerTrouble) := goodIn_app (goodIn_r [.methodLink RX10 102 yX10_answerTrouble, .instanceMethod yX10_answerTrouble, .selects RX10 yX10_answerTrouble yX10_answerTrouble, .initialized RX10] [1, 2, 3, 4] rfl (by decide +kernel)) (goodIn_m (fun _ h => (List.mem_cons_of_mem _ (List.mem_append_right _ (List.mem_append_right _ (List.mem_append_right _ h))))) qfX10_answerTrouble)
set_option maxHeartbeats 2000000 in
set_option maxRecDepth 100000 in
theorem kfX10_thereTrouble (l : Launch) (dC : Nat → ClassId) (dI : Nat → Nat → Nat) (a0 : Nat) (k1 : Int32) (a2 : Nat) (a3 : Nat) (up : Nat → Nat) (kp : Nat → ClassId) (un : Nat → Nat) (kn : Nat → ClassId) (g8 : Value) (g9 : Value) (g10 : Value) (g11 : Value) (g12 : Value) (g13 : Value) (g14 : Value) (g15 : Value) (p_p : TX6_p) (n_n : TX4_n) (sz : Nat) (out : Int32) (h : f_X10_thereTrouble k1 p_p n_n = some out) : KDi l yX10_thereTrouble vfX10_thereTrouble ({ frames := 3, cells := 0, slots := 0, locals := 64 }) (dC, dI) [.ref a0, .int k1] sz ((a0, .inr (7, [.ref a2, g8, g9, .ref a3, g10, g11, g12, g13, g14, g15])) :: bX6 a2 up kp p_p (bX4 a3 un kn n_n [])) (tX6 kp (tX4 kn ([]))) (fun (r : Int32) _ => r = out) 0 0 := by
  refine Met.ofW (cc := cX10_thereTrouble) (maxL := 3) (ret := (some .int)) (by decide) rfl ?_
  intro p e s m args below meth c s₁ B0 hml hv
  obtain ⟨rfl, hsz, hP, hK, hD0, hN⟩ := hv
  have hx := B0.exec
  have hb := B0.bytes
  have hr := B0.returns
  have hts := atoms_spec (ws := vfX10_thereTrouble) B0.pre
  have hown : s.vm.findClass RX10 = some m.cls := findClass_of_methodNamed B0.named
  have hlocks := B0.notSynchronized
  subst hsz
  have hD := hD0.self (sz := s.heap.size)
  generalize hAe : va_A ((a0, .inr (7, [.ref a2, g8, g9, .ref a3, g10, g11, g12, g13, g14, g15])) :: bX6 a2 up kp p_p (bX4 a3 un kn n_n [])) s.heap.size = A at hD ⊢
  have hA : ∀ q : Nat, s.heap.size ≤ q → A q := fun q h => by rw [← hAe]; exact Or.inr h
  have hS : va_S A s.heap s.heap [] := va_S.rf
  have hP : va_P (dC, dI) vwCl ((a0, .inr (7, [.ref a2, g8, g9, .ref a3, g10, g11, g12, g13, g14, g15])) :: bX6 a2 up kp p_p (bX4 a3 un kn n_n [])) s.heap := hP
  have hl := lv_entry ([.ref a0, .int k1]) (n := 3) (Nat.le_of_ble_eq_true rfl)
  rw [lg_entry_eq]
  generalize (lg_sl ([.ref a0, .int k1]) ++ List.replicate (3 - (lg_sl ([.ref a0, .int k1])).length) Slot.unset).toArray = ls at hl ⊢
  have hl : lv_has ls 3 [(0, .ref a0), (1, .int k1)] := hl
  refine W_q (fun QQ hQQ => ?_)
  rw [f_X10_thereTrouble] at h
  refine lv_aload_n hx hb (zat zrX10_thereTrouble_0_ok 0 rfl) rfl (lv_at hl 0 rfl) ?_
  refine lv_iload_n hx hb (zat zrX10_thereTrouble_0_ok 1 rfl) rfl (lv_at hl 1 rfl) ?_
  obtain ⟨o2, eo2⟩ : ∃ o, o = f_X10_answerTrouble k1 p_p := ⟨_, rfl⟩
  have h := nm_of h o2 eo2
  refine ck_i (wc := ((a0, .inr (7, [.ref a2, g8, g9, .ref a3, g10, g11, g12, g13, g14, g15])) :: bX6 a2 up kp p_p [])) (wr := (bX4 a3 un kn n_n [])) hP hD hK hS hA [0, 1, 2, 3, 4, 5, 6, 7, 8, 9, 10] [11, 12, 13, 14, 15] rfl rfl (by decide) (by decide) (by decide) (fun hPc hDc => (va_runV (As := [.int k1]) (rest := []) ⟨hx, hb, hml, hown, hts⟩ (kfX10_answerTrouble l dC dI a0 k1 a2 up kp (g8) (g9) (.ref a3) (g10) (g11) (g12) (g13) (g14) (g15) p_p s.heap.size o2 eo2.symm) (cwV 1 hts gfX10_thereTrouble_0 rfl rfl rfl (by decide +kernel) ⟨(Nat.le_of_ble_eq_true rfl), (Nat.le_of_ble_eq_true rfl)⟩) (PV hPc (hK.sub (tys' := (tX6 kp ([]))) [0, 1, 2, 3, 4, 5, 6, 7, 8] rfl) hDc hN 0 rfl rfl) rfl rfl hl.1 rfl (lv_room (Nat.le_of_ble_eq_true rfl)) (zat zrX10_thereTrouble_0_ok 2 rfl) ⟨(Nat.le_of_ble_eq_true rfl), (Nat.le_of_ble_eq_true rfl)⟩)) (fun r2 _ H locs hw hP hD _ hS => ?_)
  obtain rfl := hw.symm
  obtain ⟨hP, hD⟩ := pd_mk (bX4 a3 un kn n_n ((a0, .inr (7, [.ref a2, g8, g9, .ref a3, g10, g11, g12, g13, g14, g15])) :: bX6 a2 up kp p_p [])) hP hD
  refine lv_istore_n (lv' := [(2, .int o2), (0, .ref a0), (1, .int k1)]) hx hb (zat zrX10_thereTrouble_0_ok 3 rfl) rfl hl (by decide) rfl (fun ls hl => ?_)
  refine lv_iload_n hx hb (zat zrX10_thereTrouble_0_ok 4 rfl) rfl (lv_at hl 0 rfl) ?_
  have J26 : ∀ (H : Heap) (locs : List Loc) (ls : Array Slot), f_X10_thereTrouble_J26 o2 = some out → va_P (dC, dI) vwCl (bX4 a3 un kn n_n ((a0, .inr (7, [.ref a2, g8, g9, .ref a3, g10, g11, g12, g13, g14, g15])) :: bX6 a2 up kp p_p [])) H → va_D A (bX4 a3 un kn n_n ((a0, .inr (7, [.ref a2, g8, g9, .ref a3, g10, g11, g12, g13, g14, g15])) :: bX6 a2 up kp p_p [])) → va_S A s.heap H locs → lv_has ls 3 [(2, .int o2)] → W p l e (headSpec vfX10_thereTrouble { frames := 3, cells := 0, slots := 0, locals := 64 }).room s m ([.ref a0, .int k1]).toArray below meth c H locs 0 0 QQ (F0 m 26 ls []) := by
    intro  H locs ls h  hP hD hS hl
    rw [f_X10_thereTrouble_J26] at h
    refine lv_iload_n hx hb (zat zrX10_thereTrouble_0_ok 14 rfl) rfl (lv_at hl 0 rfl) ?_
    obtain rfl := Option.some.inj h
    obtain ⟨hP9, hD9⟩ := pd_sub ((a0, .inr (7, [.ref a2, g8, g9, .ref a3, g10, g11, g12, g13, g14, g15])) :: bX6 a2 up kp p_p (bX4 a3 un kn n_n [])) [5, 6, 7, 8, 9, 10, 11, 12, 13, 14, 15, 0, 1, 2, 3, 4] hP hD (by decide) rfl
    have hK9 := hK.sub (tys' := []) [] rfl
    rw [hQQ]
    exact W.iret (v := o2) hx hb hr (fun t ht hW => ⟨⟨o2, (), rfl, rfl, by rw [ht]; exact hP9, va_K.moved hW.alike hK9, hD9⟩, hS.F ht⟩) hS.2.2 (zat zrX10_thereTrouble_0_ok 15 rfl)
  refine lv_if_ne (tgt := 26) hx hb (zat zrX10_thereTrouble_0_ok 5 rfl) (by decide) (fun c7 => ?_) (fun c7 => ?_)
  · have h := (if_neg c7).symm.trans h
    exact J26  H _ ls h  hP hD hS (lv_sub hl [0] rfl)
  · have h := (if_pos c7).symm.trans h
    refine lv_aload_n hx hb (zat zrX10_thereTrouble_0_ok 6 rfl) rfl (lv_at hl 1 rfl) ?_
    refine va_get (D := (dC, dI)) (ci := 7) (v := .ref a3) (C := RX10) (T := TX10) (N := 10) hx hb hts ifX10_thereTrouble_X10 hown hK hP 5 rfl rfl 3 (by decide) (hts (.fieldLink RX10 29 "HookPier" "now" "LHookPier$Now;") (List.mem_of_getElem? (i := 5) rfl)) (fun _ h9 => h9) rfl (zat zrX10_thereTrouble_0_ok 7 rfl) ?_
    refine va_get (D := (dC, dI)) (ci := 3) (v := .ref (un 0)) (C := RX4) (T := TX4) (N := 7) hx hb hts ifX10_thereTrouble_X4 hown hK hP 0 rfl rfl 3 (by decide) (hts (.fieldLink RX10 125 "HookPier$Now" "stage" "[I") (List.mem_of_getElem? (i := 6) rfl)) (fun _ h9 => h9) rfl (zat zrX10_thereTrouble_0_ok 8 rfl) ?_
    refine lv_iload_n hx hb (zat zrX10_thereTrouble_0_ok 9 rfl) rfl (lv_at hl 2 rfl) ?_
    obtain ⟨hg18, h⟩ := gA_of h
    refine va_iald hx hb hK hP 1 9 rfl rfl hg18 (zat zrX10_thereTrouble_0_ok 10 rfl) ?_
    refine lv_if_eq (tgt := 26) hx hb (zat zrX10_thereTrouble_0_ok 11 rfl) (by decide) (fun c19 => ?_) (fun c19 => ?_)
    · have h := (if_pos c19).symm.trans h
      exact J26  H _ ls h  hP hD hS (lv_sub hl [0] rfl)
    · have h := (if_neg c19).symm.trans h
      refine lv_iconst (v := 5) hx hb (zat zrX10_thereTrouble_0_ok 12 rfl) (by decide) ?_
      refine lv_goto (tgt := 27) hx hb (zat zrX10_thereTrouble_0_ok 13 rfl) (by decide) ?_
      obtain rfl := Option.some.inj h
      obtain ⟨hP9, hD9⟩ := pd_sub ((a0, .inr (7, [.ref a2, g8, g9, .ref a3, g10, g11, g12, g13, g14, g15])) :: bX6 a2 up kp p_p (bX4 a3 un kn n_n [])) [5, 6, 7, 8, 9, 10, 11, 12, 13, 14, 15, 0, 1, 2, 3, 4] hP hD (by decide) rfl
      have hK9 := hK.sub (tys' := []) [] rfl
      rw [hQQ]
      exact W.iret (v := (5 : Int32)) hx hb hr (fun t ht hW => ⟨⟨(5 : Int32), (), rfl, rfl, by rw [ht]; exact hP9, va_K.moved hW.alike hK9, hD9⟩, hS.F ht⟩) hS.2.2 (zat zrX10_thereTrouble_0_ok 15 rfl)
noncomputable def zrX6_questionBound_0 : List ZR := zc 0 true (.bipush 100) 2 (zc 2 true (.aload_n 0) 1 (zc 3 true (.getfield 9) 3 (zc 6 true (.imul) 1 (zc 7 true (.ireturn) 1 ([])))))
theorem zrX6_questionBound_0_ok : zck 0 ((zby cX6_questionBound).drop 0) zrX6_questionBound_0 = true := by decide +kernel
def vfX6_questionBound : List Cond := List.cons (.code yX6_questionBound cX6_questionBound 1 (some .int)) (apW [.fieldLink RX6 9 "HookPier$Plan" "spots" "I"] (wsX60))
theorem ifX6_questionBound_X6 : ∀ w ∈ wsX60, w ∈ vfX6_questionBound := fun _ h => (List.mem_cons_of_mem _ (List.mem_append_right _ h))
theorem qfX6_questionBound : Good vfX6_questionBound := gd_cons (by decide +kernel) (gd_app (gd_dec (by decide +kernel) : Good [.fieldLink RX6 9 "HookPier$Plan" "spots" "I"]) qsX6)
set_option maxHeartbeats 2000000 in
set_option maxRecDepth 100000 in
theorem kfX6_questionBound (l : Launch) (dC : Nat → ClassId) (dI : Nat → Nat → Nat) (a0 : Nat) (up : Nat → Nat) (kp : Nat → ClassId) (p_p : TX6_p) (sz : Nat) (out : Int32) (h : f_X6_questionBound p_p = out) : KDi l yX6_questionBound vfX6_questionBound ({ frames := 0, cells := 0, slots := 0, locals := 0 }) (dC, dI) [.ref a0] sz (bX6 a0 up kp p_p []) (tX6 kp ([])) (fun (r : Int32) _ => r = out) 0 0 := by
  refine Met.ofW (cc := cX6_questionBound) (maxL := 1) (ret := (some .int)) (by decide) rfl ?_
  intro p e s m args below meth c s₁ B0 hml hv
  obtain ⟨rfl, hsz, hP, hK, hD0, hN⟩ := hv
  have hx := B0.exec
  have hb := B0.bytes
  have hr := B0.returns
  have hts := atoms_spec (ws := vfX6_questionBound) B0.pre
  have hown : s.vm.findClass RX6 = some m.cls := findClass_of_methodNamed B0.named
  have hlocks := B0.notSynchronized
  subst hsz
  have hD := hD0.self (sz := s.heap.size)
  generalize hAe : va_A (bX6 a0 up kp p_p []) s.heap.size = A at hD ⊢
  have hA : ∀ q : Nat, s.heap.size ≤ q → A q := fun q h => by rw [← hAe]; exact Or.inr h
  have hS : va_S A s.heap s.heap [] := va_S.rf
  have hP : va_P (dC, dI) vwCl (bX6 a0 up kp p_p []) s.heap := hP
  have hl := lv_entry ([.ref a0]) (n := 1) (Nat.le_of_ble_eq_true rfl)
  rw [lg_entry_eq]
  generalize (lg_sl ([.ref a0]) ++ List.replicate (1 - (lg_sl ([.ref a0])).length) Slot.unset).toArray = ls at hl ⊢
  have hl : lv_has ls 1 [(0, .ref a0)] := hl
  refine W_q (fun QQ hQQ => ?_)
  rw [f_X6_questionBound] at h
  refine lv_bipush (v := 100) hx hb (zat zrX6_questionBound_0_ok 0 rfl) (by decide) ?_
  refine lv_aload_n hx hb (zat zrX6_questionBound_0_ok 1 rfl) rfl (lv_at hl 0 rfl) ?_
  refine va_get (D := (dC, dI)) (ci := 4) (v := .int p_p.1) (C := RX6) (T := TX6) (N := 18) hx hb hts ifX6_questionBound_X6 hown hK hP 0 rfl rfl 0 (by decide) (hts (.fieldLink RX6 9 "HookPier$Plan" "spots" "I") (List.mem_of_getElem? (i := 1) rfl)) (fun _ h9 => h9) rfl (zat zrX6_questionBound_0_ok 2 rfl) ?_
  refine lv_imul hx hb (zat zrX6_questionBound_0_ok 3 rfl) ?_
  obtain rfl := h
  obtain ⟨hP9, hD9⟩ := pd_sub (bX6 a0 up kp p_p []) [0, 1, 2, 3, 4, 5, 6, 7, 8, 9] hP hD (by decide) rfl
  have hK9 := hK.sub (tys' := []) [] rfl
  rw [hQQ]
  exact W.iret (v := ((100 : Int32) * p_p.1)) hx hb hr (fun t ht hW => ⟨⟨((100 : Int32) * p_p.1), (), rfl, rfl, by rw [ht]; exact hP9, va_K.moved hW.alike hK9, hD9⟩, hS.F ht⟩) hS.2.2 (zat zrX6_questionBound_0_ok 4 rfl)
noncomputable def zrX6_hasQuestion_0 : List ZR := zc 0 true (.aload_n 0) 1 (zc 1 true (.iload_n 1) 1 (zc 2 true (.invokestatic 72) 3 (zc 5 true (.invokevirtual 76) 3 (zc 8 true (.ifCond .eq 33) 3 (zc 11 true (.iload_n 1) 1 (zc 12 true (.invokestatic 80) 3 (zc 15 true (.iconst 1) 1 (zc 16 true (.aload_n 0) 1 (zc 17 true (.getfield 15) 3 (zc 20 true (.invokestatic 68) 3 (zc 23 true (.ifCond .eq 18) 3 (zc 26 true (.aload_n 0) 1 (zc 27 true (.iload_n 1) 1 (zc 28 true (.invokestatic 83) 3 (zc 31 true (.invokevirtual 86) 3 (zc 34 true (.ifCond .eq 7) 3 (zc 37 true (.iconst 1) 1 (zc 38 true (.goto 4) 3 (zc 41 true (.iconst 0) 1 (zc 42 true (.ireturn) 1 ([])))))))))))))))))))))
theorem zrX6_hasQuestion_0_ok : zck 0 ((zby cX6_hasQuestion).drop 0) zrX6_hasQuestion_0 = true := by decide +kernel
def vfX6_hasQuestion : List Cond := List.cons (.code yX6_hasQuestion cX6_hasQuestion 2 (some .boolean)) (apW [.initialized RX10, .static yX10_spotOf, .methodLink RX6 76 yX6_hasSpot, .instanceMethod yX6_hasSpot, .selects RX6 yX6_hasSpot yX6_hasSpot, .initialized RX6, .static yX10_fathomsOf, .fieldLink RX6 15 "HookPier$Plan" "deep" "I", .static yX10_within, .static yX10_baitOf, .methodLink RX6 86 yX6_hasBait, .instanceMethod yX6_hasBait, .selects RX6 yX6_hasBait yX6_hasBait] (apW wsX60 (apW vfX10_spotOf (apW vfX6_hasSpot (apW vfX10_fathomsOf (apW vfX10_within (apW vfX10_baitOf (vfX6_hasBait))))))))
theorem ifX6_hasQuestion_X6 : ∀ w ∈ wsX60, w ∈ vfX6_hasQuestion := fun _ h => (List.mem_cons_of_mem _ (List.mem_append_right _ (List.mem_append_left _ h)))
theorem qfX6_hasQuestion : Good vfX6_hasQuestion := gd_cons (by decide +kernel) (gd_app (gd_dec (by decide +kernel) : Good [.initialized RX10, .static yX10_spotOf, .methodLink RX6 76 yX6_hasSpot, .instanceMethod yX6_hasSpot, .selects RX6 yX6_hasSpot yX6_hasSpot, .initialized RX6, .static yX10_fathomsOf, .fieldLink RX6 15 "HookPier$Plan" "deep" "I", .static yX10_within, .static yX10_baitOf, .methodLink RX6 86 yX6_hasBait, .instanceMethod yX6_hasBait, .selects RX6 yX6_hasBait yX6_hasBait]) (gd_app qsX6 (gd_app qfX10_spotOf (gd_app qfX6_hasSpot (gd_app qfX10_fathomsOf (gd_app qfX10_within (gd_app qfX10_baitOf qfX6_hasBait)))))))
theorem gfX6_hasQuestion_0 : GoodIn vfX6_hasQuestion vfX10_spotOf := (goodIn_m (fun _ h => (List.mem_cons_of_mem _ (List.mem_append_right _ (List.mem_append_right _ (List.mem_append_left _ h))))) qfX10_spotOf)
theorem gfX6_hasQuestion_1 : GoodIn vfX6_hasQuestion (wsV RX6 76 RX6 yX6_hasSpot vfX6_hasSpot) := goodIn_app (goodIn_r [.methodLink RX6 76 yX6_hasSpot, .instanceMethod yX6_hasSpot, .selects RX6 yX6_hasSpot yX6_hasSpot, .initialized RX6] [3, 4, 5, 6] rfl (by decide +kernel)) (goodIn_m (fun _ h => (List.mem_cons_of_mem _ (List.mem_append_right _ (List.mem_append_right _ (List.mem_append_right _ (List.mem_append_left _ h)))))) qfX6_hasSpot)
theorem gfX6_hasQuestion_2 : GoodIn vfX6_hasQuestion vfX10_fathomsOf := (goodIn_m (fun _ h => (List.mem_cons_of_mem _ (List.mem_append_right _ (List.mem_append_right _ (List.mem_append_right _ (List.mem_append_right _ (List.mem_append_left _ h))))))) qfX10_fathomsOf)
theorem gfX6_hasQuestion_3 : GoodIn vfX6_hasQuestion vfX10_within := (goodIn_m (fun _ h => (List.mem_cons_of_mem _ (List.mem_append_right _ (List.mem_append_right _ (List.mem_append_right _ (List.mem_append_right _ (List.mem_append_right _ (List.mem_append_left _ h)))))))) qfX10_within)
theorem gfX6_hasQuestion_4 : GoodIn vfX6_hasQuestion vfX10_baitOf := (goodIn_m (fun _ h => (List.mem_cons_of_mem _ (List.mem_append_right _ (List.mem_append_right _ (List.mem_append_right _ (List.mem_append_right _ (List.mem_append_right _ (List.mem_append_right _ (List.mem_append_left _ h))))))))) qfX10_baitOf)
theorem gfX6_hasQuestion_5 : GoodIn vfX6_hasQuestion (wsV RX6 86 RX6 yX6_hasBait vfX6_hasBait) := goodIn_app (goodIn_r [.methodLink RX6 86 yX6_hasBait, .instanceMethod yX6_hasBait, .selects RX6 yX6_hasBait yX6_hasBait, .initialized RX6] [11, 12, 13, 6] rfl (by decide +kernel)) (goodIn_m (fun _ h => (List.mem_cons_of_mem _ (List.mem_append_right _ (List.mem_append_right _ (List.mem_append_right _ (List.mem_append_right _ (List.mem_append_right _ (List.mem_append_right _ (List.mem_append_right _ h))))))))) qfX6_hasBait)
set_option maxHeartbeats 2000000 in
set_option maxRecDepth 100000 in
theorem kfX6_hasQuestion (l : Launch) (dC : Nat → ClassId) (dI : Nat → Nat → Nat) (a0 : Nat) (k1 : Int32) (up : Nat → Nat) (kp : Nat → ClassId) (p_p : TX6_p) (sz : Nat) (out : Int32) (h : f_X6_hasQuestion k1 p_p = out) : KDi l yX6_hasQuestion vfX6_hasQuestion ({ frames := 2, cells := 0, slots := 0, locals := 43 }) (dC, dI) [.ref a0, .int k1] sz (bX6 a0 up kp p_p []) (tX6 kp ([])) (fun (r : Int32) _ => r = out ∧ (0 ≤ r.toInt ∧ r.toInt ≤ 1)) 0 0 := by
  refine Met.ofW (cc := cX6_hasQuestion) (maxL := 2) (ret := (some .boolean)) (by decide) rfl ?_
  intro p e s m args below meth c s₁ B0 hml hv
  obtain ⟨rfl, hsz, hP, hK, hD0, hN⟩ := hv
  have hx := B0.exec
  have hb := B0.bytes
  have hr := B0.returns
  have hts := atoms_spec (ws := vfX6_hasQuestion) B0.pre
  have hown : s.vm.findClass RX6 = some m.cls := findClass_of_methodNamed B0.named
  have hlocks := B0.notSynchronized
  subst hsz
  have hD := hD0.self (sz := s.heap.size)
  generalize hAe : va_A (bX6 a0 up kp p_p []) s.heap.size = A at hD ⊢
  have hA : ∀ q : Nat, s.heap.size ≤ q → A q := fun q h => by rw [← hAe]; exact Or.inr h
  have hS : va_S A s.heap s.heap [] := va_S.rf
  have hP : va_P (dC, dI) vwCl (bX6 a0 up kp p_p []) s.heap := hP
  have hl := lv_entry ([.ref a0, .int k1]) (n := 2) (Nat.le_of_ble_eq_true rfl)
  rw [lg_entry_eq]
  generalize (lg_sl ([.ref a0, .int k1]) ++ List.replicate (2 - (lg_sl ([.ref a0, .int k1])).length) Slot.unset).toArray = ls at hl ⊢
  have hl : lv_has ls 2 [(0, .ref a0), (1, .int k1)] := hl
  refine W_q (fun QQ hQQ => ?_)
  rw [f_X6_hasQuestion] at h
  refine lv_aload_n hx hb (zat zrX6_hasQuestion_0_ok 0 rfl) rfl (lv_at hl 0 rfl) ?_
  refine lv_iload_n hx hb (zat zrX6_hasQuestion_0_ok 1 rfl) rfl (lv_at hl 1 rfl) ?_
  obtain ⟨o2, eo2⟩ : ∃ o, o = f_X10_spotOf k1 := ⟨_, rfl⟩
  have h := nm_of h o2 eo2
  refine ck_i (wc := []) (wr := (bX6 a0 up kp p_p [])) hP hD hK hS hA [] [0, 1, 2, 3, 4, 5, 6, 7, 8, 9] rfl rfl (by decide) (by decide) (by decide) (fun hPc hDc => (va_runSN (As := [.int k1]) (rest := [.ref a0]) ⟨hx, hb, hml, hown, hts⟩ (kfX10_spotOf l dC dI k1 s.heap.size o2 eo2.symm) ⟨va_cnB 1 hts gfX6_hasQuestion_0 rfl rfl rfl (hN.1 (.methodLinkNest RX6 72 yX10_spotOf "HookPier") (List.mem_of_getElem? (i := 12) rfl)) (hts (.initialized RX10) (List.mem_of_getElem? (i := 1) rfl)) (by decide +kernel) ⟨(Nat.le_of_ble_eq_true rfl), (Nat.le_of_ble_eq_true rfl)⟩, (hts (.static yX10_spotOf) (List.mem_of_getElem? (i := 2) rfl)), trivial⟩ (PS hPc (hK.sub (tys' := ([])) [] rfl) hDc hN) rfl rfl hl.1 rfl (lv_room (Nat.le_of_ble_eq_true rfl)) (zat zrX6_hasQuestion_0_ok 2 rfl) ⟨(Nat.le_of_ble_eq_true rfl), (Nat.le_of_ble_eq_true rfl)⟩)) (fun r2 _ H locs hw hP hD _ hS => ?_)
  obtain rfl := hw.symm
  obtain ⟨hP, hD⟩ := pd_mk (bX6 a0 up kp p_p []) hP hD
  obtain ⟨o5, eo5⟩ : ∃ o, o = f_X6_hasSpot o2 p_p := ⟨_, rfl⟩
  have h := nm_of h o5 eo5
  refine ck_i (wc := (bX6 a0 up kp p_p [])) (wr := []) hP hD hK hS hA [0, 1, 2, 3, 4, 5, 6, 7, 8, 9] [] rfl rfl (by decide) (by decide) (by decide) (fun hPc hDc => (va_runV (As := [.int o2]) (rest := []) ⟨hx, hb, hml, hown, hts⟩ (kfX6_hasSpot l dC dI a0 o2 up kp p_p H.size o5 eo5.symm) (cwV 1 hts gfX6_hasQuestion_1 rfl rfl rfl (by decide +kernel) ⟨(Nat.le_of_ble_eq_true rfl), (Nat.le_of_ble_eq_true rfl)⟩) (PV hPc (hK.sub (tys' := (tX6 kp ([]))) [0, 1, 2, 3, 4, 5, 6, 7, 8] rfl) hDc hN 0 rfl rfl) rfl rfl hl.1 rfl (lv_room (Nat.le_of_ble_eq_true rfl)) (zat zrX6_hasQuestion_0_ok 3 rfl) ⟨(Nat.le_of_ble_eq_true rfl), (Nat.le_of_ble_eq_true rfl)⟩)) (fun r5 _ H locs hw hP hD _ hS => ?_)
  obtain ⟨hw, br5⟩ := hw
  obtain rfl := hw.symm
  obtain ⟨hP, hD⟩ := pd_mk (bX6 a0 up kp p_p []) hP hD
  refine lv_if_eq (tgt := 41) hx hb (zat zrX6_hasQuestion_0_ok 4 rfl) (by decide) (fun c8 => ?_) (fun c8 => ?_)
  · have h := (if_pos c8).symm.trans h
    refine lv_iconst (v := 0) hx hb (zat zrX6_hasQuestion_0_ok 19 rfl) (by decide) ?_
    obtain rfl := h
    obtain ⟨hP9, hD9⟩ := pd_sub (bX6 a0 up kp p_p []) [0, 1, 2, 3, 4, 5, 6, 7, 8, 9] hP hD (by decide) rfl
    have hK9 := hK.sub (tys' := []) [] rfl
    rw [hQQ]
    exact W.zret (v := (0 : Int32)) hx hb hr rfl (fun t ht hW => ⟨⟨(0 : Int32), (), rfl, ⟨rfl, (by decide)⟩, by rw [ht]; exact hP9, va_K.moved hW.alike hK9, hD9⟩, hS.F ht⟩) hS.2.2 (zat zrX6_hasQuestion_0_ok 20 rfl)
  · have h := (if_neg c8).symm.trans h
    refine lv_iload_n hx hb (zat zrX6_hasQuestion_0_ok 5 rfl) rfl (lv_at hl 1 rfl) ?_
    obtain ⟨o12, eo12⟩ : ∃ o, o = f_X10_fathomsOf k1 := ⟨_, rfl⟩
    have h := nm_of h o12 eo12
    refine ck_i (wc := []) (wr := (bX6 a0 up kp p_p [])) hP hD hK hS hA [] [0, 1, 2, 3, 4, 5, 6, 7, 8, 9] rfl rfl (by decide) (by decide) (by decide) (fun hPc hDc => (va_runSN (As := [.int k1]) (rest := []) ⟨hx, hb, hml, hown, hts⟩ (kfX10_fathomsOf l dC dI k1 H.size o12 eo12.symm) ⟨va_cnB 1 hts gfX6_hasQuestion_2 rfl rfl rfl (hN.1 (.methodLinkNest RX6 80 yX10_fathomsOf "HookPier") (List.mem_of_getElem? (i := 14) rfl)) (hts (.initialized RX10) (List.mem_of_getElem? (i := 1) rfl)) (by decide +kernel) ⟨(Nat.le_of_ble_eq_true rfl), (Nat.le_of_ble_eq_true rfl)⟩, (hts (.static yX10_fathomsOf) (List.mem_of_getElem? (i := 7) rfl)), trivial⟩ (PS hPc (hK.sub (tys' := ([])) [] rfl) hDc hN) rfl rfl hl.1 rfl (lv_room (Nat.le_of_ble_eq_true rfl)) (zat zrX6_hasQuestion_0_ok 6 rfl) ⟨(Nat.le_of_ble_eq_true rfl), (Nat.le_of_ble_eq_true rfl)⟩)) (fun r12 _ H locs hw hP hD _ hS => ?_)
    obtain rfl := hw.symm
    obtain ⟨hP, hD⟩ := pd_mk (bX6 a0 up kp p_p []) hP hD
    refine lv_iconst (v := 1) hx hb (zat zrX6_hasQuestion_0_ok 7 rfl) (by decide) ?_
    refine lv_aload_n hx hb (zat zrX6_hasQuestion_0_ok 8 rfl) rfl (lv_at hl 0 rfl) ?_
    refine va_get (D := (dC, dI)) (ci := 4) (v := .int p_p.2.1) (C := RX6) (T := TX6) (N := 18) hx hb hts ifX6_hasQuestion_X6 hown hK hP 0 rfl rfl 1 (by decide) (hts (.fieldLink RX6 15 "HookPier$Plan" "deep" "I") (List.mem_of_getElem? (i := 8) rfl)) (fun _ h9 => h9) rfl (zat zrX6_hasQuestion_0_ok 9 rfl) ?_
    obtain ⟨o20, eo20⟩ : ∃ o, o = f_X10_within o12 (1 : Int32) p_p.2.1 := ⟨_, rfl⟩
    have h := nm_of h o20 eo20
    refine ck_i (wc := []) (wr := (bX6 a0 up kp p_p [])) hP hD hK hS hA [] [0, 1, 2, 3, 4, 5, 6, 7, 8, 9] rfl rfl (by decide) (by decide) (by decide) (fun hPc hDc => (va_runSN (As := [.int o12, .int 1, .int p_p.2.1]) (rest := []) ⟨hx, hb, hml, hown, hts⟩ (kfX10_within l dC dI o12 (1 : Int32) p_p.2.1 H.size o20 eo20.symm) ⟨va_cnB 3 hts gfX6_hasQuestion_3 rfl rfl rfl (hN.1 (.methodLinkNest RX6 68 yX10_within "HookPier") (List.mem_of_getElem? (i := 10) rfl)) (hts (.initialized RX10) (List.mem_of_getElem? (i := 1) rfl)) (by decide +kernel) ⟨(Nat.le_of_ble_eq_true rfl), (Nat.le_of_ble_eq_true rfl)⟩, (hts (.static yX10_within) (List.mem_of_getElem? (i := 9) rfl)), trivial⟩ (PS hPc (hK.sub (tys' := ([])) [] rfl) hDc hN) rfl rfl hl.1 rfl (lv_room (Nat.le_of_ble_eq_true rfl)) (zat zrX6_hasQuestion_0_ok 10 rfl) ⟨(Nat.le_of_ble_eq_true rfl), (Nat.le_of_ble_eq_true rfl)⟩)) (fun r20 _ H locs hw hP hD _ hS => ?_)
    obtain ⟨hw, br20⟩ := hw
    obtain rfl := hw.symm
    obtain ⟨hP, hD⟩ := pd_mk (bX6 a0 up kp p_p []) hP hD
    refine lv_if_eq (tgt := 41) hx hb (zat zrX6_hasQuestion_0_ok 11 rfl) (by decide) (fun c23 => ?_) (fun c23 => ?_)
    · have h := (if_pos c23).symm.trans h
      refine lv_iconst (v := 0) hx hb (zat zrX6_hasQuestion_0_ok 19 rfl) (by decide) ?_
      obtain rfl := h
      obtain ⟨hP9, hD9⟩ := pd_sub (bX6 a0 up kp p_p []) [0, 1, 2, 3, 4, 5, 6, 7, 8, 9] hP hD (by decide) rfl
      have hK9 := hK.sub (tys' := []) [] rfl
      rw [hQQ]
      exact W.zret (v := (0 : Int32)) hx hb hr rfl (fun t ht hW => ⟨⟨(0 : Int32), (), rfl, ⟨rfl, (by decide)⟩, by rw [ht]; exact hP9, va_K.moved hW.alike hK9, hD9⟩, hS.F ht⟩) hS.2.2 (zat zrX6_hasQuestion_0_ok 20 rfl)
    · have h := (if_neg c23).symm.trans h
      refine lv_aload_n hx hb (zat zrX6_hasQuestion_0_ok 12 rfl) rfl (lv_at hl 0 rfl) ?_
      refine lv_iload_n hx hb (zat zrX6_hasQuestion_0_ok 13 rfl) rfl (lv_at hl 1 rfl) ?_
      obtain ⟨o28, eo28⟩ : ∃ o, o = f_X10_baitOf k1 := ⟨_, rfl⟩
      have h := nm_of h o28 eo28
      refine ck_i (wc := []) (wr := (bX6 a0 up kp p_p [])) hP hD hK hS hA [] [0, 1, 2, 3, 4, 5, 6, 7, 8, 9] rfl rfl (by decide) (by decide) (by decide) (fun hPc hDc => (va_runSN (As := [.int k1]) (rest := [.ref a0]) ⟨hx, hb, hml, hown, hts⟩ (kfX10_baitOf l dC dI k1 H.size o28 eo28.symm) ⟨va_cnB 1 hts gfX6_hasQuestion_4 rfl rfl rfl (hN.1 (.methodLinkNest RX6 83 yX10_baitOf "HookPier") (List.mem_of_getElem? (i := 13) rfl)) (hts (.initialized RX10) (List.mem_of_getElem? (i := 1) rfl)) (by decide +kernel) ⟨(Nat.le_of_ble_eq_true rfl), (Nat.le_of_ble_eq_true rfl)⟩, (hts (.static yX10_baitOf) (List.mem_of_getElem? (i := 10) rfl)), trivial⟩ (PS hPc (hK.sub (tys' := ([])) [] rfl) hDc hN) rfl rfl hl.1 rfl (lv_room (Nat.le_of_ble_eq_true rfl)) (zat zrX6_hasQuestion_0_ok 14 rfl) ⟨(Nat.le_of_ble_eq_true rfl), (Nat.le_of_ble_eq_true rfl)⟩)) (fun r28 _ H locs hw hP hD _ hS => ?_)
      obtain rfl := hw.symm
      obtain ⟨hP, hD⟩ := pd_mk (bX6 a0 up kp p_p []) hP hD
      obtain ⟨o31, eo31⟩ : ∃ o, o = f_X6_hasBait o28 p_p := ⟨_, rfl⟩
      have h := nm_of h o31 eo31
      refine ck_i (wc := (bX6 a0 up kp p_p [])) (wr := []) hP hD hK hS hA [0, 1, 2, 3, 4, 5, 6, 7, 8, 9] [] rfl rfl (by decide) (by decide) (by decide) (fun hPc hDc => (va_runV (As := [.int o28]) (rest := []) ⟨hx, hb, hml, hown, hts⟩ (kfX6_hasBait l dC dI a0 o28 up kp p_p H.size o31 eo31.symm) (cwV 1 hts gfX6_hasQuestion_5 rfl rfl rfl (by decide +kernel) ⟨(Nat.le_of_ble_eq_true rfl), (Nat.le_of_ble_eq_true rfl)⟩) (PV hPc (hK.sub (tys' := (tX6 kp ([]))) [0, 1, 2, 3, 4, 5, 6, 7, 8] rfl) hDc hN 0 rfl rfl) rfl rfl hl.1 rfl (lv_room (Nat.le_of_ble_eq_true rfl)) (zat zrX6_hasQuestion_0_ok 15 rfl) ⟨(Nat.le_of_ble_eq_true rfl), (Nat.le_of_ble_eq_true rfl)⟩)) (fun r31 _ H locs hw hP hD _ hS => ?_)
      obtain ⟨hw, br31⟩ := hw
      obtain rfl := hw.symm
      obtain ⟨hP, hD⟩ := pd_mk (bX6 a0 up kp p_p []) hP hD
      refine lv_if_eq (tgt := 41) hx hb (zat zrX6_hasQuestion_0_ok 16 rfl) (by decide) (fun c34 => ?_) (fun c34 => ?_)
      · have h := (if_pos c34).symm.trans h
        refine lv_iconst (v := 0) hx hb (zat zrX6_hasQuestion_0_ok 19 rfl) (by decide) ?_
        obtain rfl := h
        obtain ⟨hP9, hD9⟩ := pd_sub (bX6 a0 up kp p_p []) [0, 1, 2, 3, 4, 5, 6, 7, 8, 9] hP hD (by decide) rfl
        have hK9 := hK.sub (tys' := []) [] rfl
        rw [hQQ]
        exact W.zret (v := (0 : Int32)) hx hb hr rfl (fun t ht hW => ⟨⟨(0 : Int32), (), rfl, ⟨rfl, (by decide)⟩, by rw [ht]; exact hP9, va_K.moved hW.alike hK9, hD9⟩, hS.F ht⟩) hS.2.2 (zat zrX6_hasQuestion_0_ok 20 rfl)
      · have h := (if_neg c34).symm.trans h
        refine lv_iconst (v := 1) hx hb (zat zrX6_hasQuestion_0_ok 17 rfl) (by decide) ?_
        refine lv_goto (tgt := 42) hx hb (zat zrX6_hasQuestion_0_ok 18 rfl) (by decide) ?_
        obtain rfl := h
        obtain ⟨hP9, hD9⟩ := pd_sub (bX6 a0 up kp p_p []) [0, 1, 2, 3, 4, 5, 6, 7, 8, 9] hP hD (by decide) rfl
        have hK9 := hK.sub (tys' := []) [] rfl
        rw [hQQ]
        exact W.zret (v := (1 : Int32)) hx hb hr rfl (fun t ht hW => ⟨⟨(1 : Int32), (), rfl, ⟨rfl, (by decide)⟩, by rw [ht]; exact hP9, va_K.moved hW.alike hK9, hD9⟩, hS.F ht⟩) hS.2.2 (zat zrX6_hasQuestion_0_ok 20 rfl)
noncomputable def zrX5_surestQuestion_0 : List ZR := zc 0 true (.bipush (-2)) 2 (zc 2 true (.istore_n 3) 1 (zc 3 true (.lconst 0) 1 (zc 4 true (.lstore 4) 2 (zc 6 true (.iconst 0) 1 (zc 7 true (.istore 6) 2 (zc 9 true (.iload 6) 2 (zc 11 true (.aload_n 0) 1 (zc 12 true (.invokevirtual 41) 3 (zc 15 true (.if_icmp .ge 47) 3 (zc 18 true (.aload_n 0) 1 (zc 19 true (.iload 6) 2 (zc 21 true (.invokevirtual 45) 3 (zc 24 true (.ifCond .eq 14) 3 (zc 27 true (.aload_n 0) 1 (zc 28 true (.aload_n 1) 1 (zc 29 true (.iload_n 2) 1 (zc 30 true (.iload 6) 2 (zc 32 true (.invokestatic 35) 3 (zc 35 true (.goto 4) 3 (zc 38 true (.lconst 0) 1 (zc 39 true (.lstore 7) 2 (zc 41 true (.lload 7) 2 (zc 43 true (.lload 4) 2 (zc 45 true (.lcmp) 1 (zc 46 true (.ifCond .le 10) 3 (zc 49 true (.lload 7) 2 (zc 51 true (.lstore 4) 2 (zc 53 true (.iload 6) 2 (zc 55 true (.istore_n 3) 1 (zc 56 true (.iinc 6 1) 3 (zc 59 true (.goto (-50)) 3 (zc 62 true (.iload_n 3) 1 (zc 63 true (.ireturn) 1 ([]))))))))))))))))))))))))))))))))))
theorem zrX5_surestQuestion_0_ok : zck 0 ((zby cX5_surestQuestion).drop 0) zrX5_surestQuestion_0 = true := by decide +kernel
def vfX5_surestQuestion : List Cond := List.cons (.code yX5_surestQuestion cX5_surestQuestion 9 (some .int)) (apW [.methodLink RX5 41 yX6_questionBound, .instanceMethod yX6_questionBound, .selects RX6 yX6_questionBound yX6_questionBound, .initialized RX6, .methodLink RX5 45 yX6_hasQuestion, .instanceMethod yX6_hasQuestion, .selects RX6 yX6_hasQuestion yX6_hasQuestion, .methodLink RX5 35 yX5_chance, .static yX5_chance, .initialized RX5] (apW vfX6_questionBound (apW vfX6_hasQuestion (vfX5_chance))))
theorem qfX5_surestQuestion : Good vfX5_surestQuestion := gd_cons (by decide +kernel) (gd_app (gd_dec (by decide +kernel) : Good [.methodLink RX5 41 yX6_questionBound, .instanceMethod yX6_questionBound, .selects RX6 yX6_questionBound yX6_questionBound, .initialized RX6, .methodLink RX5 45 yX6_hasQuestion, .instanceMethod yX6_hasQuestion, .selects RX6 yX6_hasQuestion yX6_hasQuestion, .methodLink RX5 35 yX5_chance, .static yX5_chance, .initialized RX5]) (gd_app qfX6_questionBound (gd_app qfX6_hasQuestion qfX5_chance)))
theorem gfX5_surestQuestion_0 : GoodIn vfX5_surestQuestion (wsV RX5 41 RX6 yX6_questionBound vfX6_questionBound) := goodIn_app (goodIn_r [.methodLink RX5 41 yX6_questionBound, .instanceMethod yX6_questionBound, .selects RX6 yX6_questionBound yX6_questionBound, .initialized RX6] [1, 2, 3, 4] rfl (by decide +kernel)) (goodIn_m (fun _ h => (List.mem_cons_of_mem _ (List.mem_append_right _ (List.mem_append_left _ h)))) qfX6_questionBound)
theorem gfX5_surestQuestion_1 : GoodIn vfX5_surestQuestion (wsV RX5 45 RX6 yX6_hasQuestion vfX6_hasQuestion) := goodIn_app (goodIn_r [.methodLink RX5 45 yX6_hasQuestion, .instanceMethod yX6_hasQuestion, .selects RX6 yX6_hasQuestion yX6_hasQuestion, .initialized RX6] [5, 6, 7, 4] rfl (by decide +kernel)) (goodIn_m (fun _ h => (List.mem_cons_of_mem _ (List.mem_append_right _ (List.mem_append_right _ (List.mem_append_left _ h))))) qfX6_hasQuestion)
theorem gfX5_surestQuestion_2 : GoodIn vfX5_surestQuestion (va_wsS RX5 35 yX5_chance vfX5_chance) := goodIn_app (goodIn_r [.methodLink RX5 35 yX5_chance, .static yX5_chance, .initialized RX5] [8, 9, 10] rfl (by decide +kernel)) (goodIn_m (fun _ h => (List.mem_cons_of_mem _ (List.mem_append_right _ (List.mem_append_right _ (List.mem_append_right _ h))))) qfX5_chance)
set_option maxHeartbeats 2000000 in
set_option maxRecDepth 100000 in
theorem kfX5_surestQuestion (l : Launch) (dC : Nat → ClassId) (dI : Nat → Nat → Nat) (a0 : Nat) (a1 : Nat) (k2 : Int32) (up : Nat → Nat) (kp : Nat → ClassId) (un : Nat → Nat) (kn : Nat → ClassId) (p_p : TX6_p) (n_n : TX4_n) (sz : Nat) (out : Int32) (h : f_X5_surestQuestion k2 p_p n_n = some out) : KDi l yX5_surestQuestion vfX5_surestQuestion ({ frames := 4, cells := 0, slots := 0, locals := 95 }) (dC, dI) [.ref a0, .ref a1, .int k2] sz (bX6 a0 up kp p_p (bX4 a1 un kn n_n [])) (tX6 kp (tX4 kn ([]))) (fun (r : Int32) _ => r = out) 0 0 := by
  refine Met.ofW (cc := cX5_surestQuestion) (maxL := 9) (ret := (some .int)) (by decide) rfl ?_
  intro p e s m args below meth c s₁ B0 hml hv
  obtain ⟨rfl, hsz, hP, hK, hD0, hN⟩ := hv
  have hx := B0.exec
  have hb := B0.bytes
  have hr := B0.returns
  have hts := atoms_spec (ws := vfX5_surestQuestion) B0.pre
  have hown : s.vm.findClass RX5 = some m.cls := findClass_of_methodNamed B0.named
  have hlocks := B0.notSynchronized
  subst hsz
  have hD := hD0.self (sz := s.heap.size)
  generalize hAe : va_A (bX6 a0 up kp p_p (bX4 a1 un kn n_n [])) s.heap.size = A at hD ⊢
  have hA : ∀ q : Nat, s.heap.size ≤ q → A q := fun q h => by rw [← hAe]; exact Or.inr h
  have hS : va_S A s.heap s.heap [] := va_S.rf
  have hP : va_P (dC, dI) vwCl (bX6 a0 up kp p_p (bX4 a1 un kn n_n [])) s.heap := hP
  have hl := lv_entry ([.ref a0, .ref a1, .int k2]) (n := 9) (Nat.le_of_ble_eq_true rfl)
  rw [lg_entry_eq]
  generalize (lg_sl ([.ref a0, .ref a1, .int k2]) ++ List.replicate (9 - (lg_sl ([.ref a0, .ref a1, .int k2])).length) Slot.unset).toArray = ls at hl ⊢
  have hl : lv_has ls 9 [(0, .ref a0), (1, .ref a1), (2, .int k2)] := hl
  refine W_q (fun QQ hQQ => ?_)
  rw [f_X5_surestQuestion] at h
  refine lv_bipush (v := (-2)) hx hb (zat zrX5_surestQuestion_0_ok 0 rfl) (by decide) ?_
  refine lv_istore_n (lv' := [(3, .int (-2)), (0, .ref a0), (1, .ref a1), (2, .int k2)]) hx hb (zat zrX5_surestQuestion_0_ok 1 rfl) rfl hl (by decide) rfl (fun ls hl => ?_)
  refine lv_lconst (v := 0) hx hb (zat zrX5_surestQuestion_0_ok 2 rfl) (by decide) ?_
  refine lv_lstore (lv' := [(4, .long 0), (3, .int (-2)), (0, .ref a0), (1, .ref a1), (2, .int k2)]) hx hb (zat zrX5_surestQuestion_0_ok 3 rfl) hl (by decide) rfl (fun ls hl => ?_)
  refine lv_iconst (v := 0) hx hb (zat zrX5_surestQuestion_0_ok 4 rfl) (by decide) ?_
  refine lv_istore (lv' := [(6, .int 0), (4, .long 0), (3, .int (-2)), (0, .ref a0), (1, .ref a1), (2, .int k2)]) hx hb (zat zrX5_surestQuestion_0_ok 5 rfl) hl (by decide) rfl (fun ls hl => ?_)
  have L9 : ∀ (n9 : Nat) (v9_l6 : Int32) (v9_l4 : Int64) (v9_l3 : Int32) (H : Heap) (locs : List Loc) (ls : Array Slot), f_X5_surestQuestion_L9 k2 p_p n_n n9 v9_l6 v9_l4 v9_l3 = some out → va_P (dC, dI) vwCl (bX6 a0 up kp p_p (bX4 a1 un kn n_n [])) H → va_D A (bX6 a0 up kp p_p (bX4 a1 un kn n_n [])) → va_S A s.heap H locs → lv_has ls 9 [(6, .int v9_l6), (4, .long v9_l4), (3, .int v9_l3), (0, .ref a0), (1, .ref a1), (2, .int k2)] → W p l e (headSpec vfX5_surestQuestion { frames := 4, cells := 0, slots := 0, locals := 95 }).room s m ([.ref a0, .ref a1, .int k2]).toArray below meth c H locs 0 0 QQ (F0 m 9 ls []) := by
    intro n9
    induction n9 with
    | zero =>
      intro v9_l6 v9_l4 v9_l3 H locs ls h  _ _ _ _
      rw [f_X5_surestQuestion_L9] at h
      cases h
    | succ n9 ih9 =>
      intro v9_l6 v9_l4 v9_l3 H locs ls h  hP hD hS hl
      rw [f_X5_surestQuestion_L9] at h
      refine lv_iload hx hb (zat zrX5_surestQuestion_0_ok 6 rfl) (lv_at hl 0 rfl) ?_
      refine lv_aload_n hx hb (zat zrX5_surestQuestion_0_ok 7 rfl) rfl (lv_at hl 3 rfl) ?_
      obtain ⟨o12, eo12⟩ : ∃ o, o = f_X6_questionBound p_p := ⟨_, rfl⟩
      have h := nm_of h o12 eo12
      refine ck_i (wc := (bX6 a0 up kp p_p [])) (wr := (bX4 a1 un kn n_n [])) hP hD hK hS hA [0, 1, 2, 3, 4, 5, 6, 7, 8, 9] [10, 11, 12, 13, 14] rfl rfl (by decide) (by decide) (by decide) (fun hPc hDc => (va_runV (As := []) (rest := [.int v9_l6]) ⟨hx, hb, hml, hown, hts⟩ (kfX6_questionBound l dC dI a0 up kp p_p H.size o12 eo12.symm) (cwV 0 hts gfX5_surestQuestion_0 rfl rfl rfl (by decide +kernel) ⟨(Nat.le_of_ble_eq_true rfl), (Nat.le_of_ble_eq_true rfl)⟩) (PV hPc (hK.sub (tys' := (tX6 kp ([]))) [0, 1, 2, 3, 4, 5, 6, 7, 8] rfl) hDc hN 0 rfl rfl) rfl rfl hl.1 rfl (lv_room (Nat.le_of_ble_eq_true rfl)) (zat zrX5_surestQuestion_0_ok 8 rfl) ⟨(Nat.le_of_ble_eq_true rfl), (Nat.le_of_ble_eq_true rfl)⟩)) (fun r12 _ H locs hw hP hD _ hS => ?_)
      obtain rfl := hw.symm
      obtain ⟨hP, hD⟩ := pd_mk (bX4 a1 un kn n_n (bX6 a0 up kp p_p [])) hP hD
      refine lv_icmp_ge (tgt := 62) hx hb (zat zrX5_surestQuestion_0_ok 9 rfl) (by decide) (fun c15 => ?_) (fun c15 => ?_)
      · have h := (if_pos c15).symm.trans h
        refine lv_iload_n hx hb (zat zrX5_surestQuestion_0_ok 32 rfl) rfl (lv_at hl 2 rfl) ?_
        obtain rfl := Option.some.inj h
        obtain ⟨hP9, hD9⟩ := pd_sub (bX6 a0 up kp p_p (bX4 a1 un kn n_n [])) [5, 6, 7, 8, 9, 10, 11, 12, 13, 14, 0, 1, 2, 3, 4] hP hD (by decide) rfl
        have hK9 := hK.sub (tys' := []) [] rfl
        rw [hQQ]
        exact W.iret (v := v9_l3) hx hb hr (fun t ht hW => ⟨⟨v9_l3, (), rfl, rfl, by rw [ht]; exact hP9, va_K.moved hW.alike hK9, hD9⟩, hS.F ht⟩) hS.2.2 (zat zrX5_surestQuestion_0_ok 33 rfl)
      · have h := (if_neg c15).symm.trans h
        refine lv_aload_n hx hb (zat zrX5_surestQuestion_0_ok 10 rfl) rfl (lv_at hl 3 rfl) ?_
        refine lv_iload hx hb (zat zrX5_surestQuestion_0_ok 11 rfl) (lv_at hl 0 rfl) ?_
        obtain ⟨o21, eo21⟩ : ∃ o, o = f_X6_hasQuestion v9_l6 p_p := ⟨_, rfl⟩
        have h := nm_of h o21 eo21
        refine ck_i (wc := (bX6 a0 up kp p_p [])) (wr := (bX4 a1 un kn n_n [])) hP hD hK hS hA [5, 6, 7, 8, 9, 10, 11, 12, 13, 14] [0, 1, 2, 3, 4] rfl rfl (by decide) (by decide) (by decide) (fun hPc hDc => (va_runV (As := [.int v9_l6]) (rest := []) ⟨hx, hb, hml, hown, hts⟩ (kfX6_hasQuestion l dC dI a0 v9_l6 up kp p_p H.size o21 eo21.symm) (cwV 1 hts gfX5_surestQuestion_1 rfl rfl rfl (by decide +kernel) ⟨(Nat.le_of_ble_eq_true rfl), (Nat.le_of_ble_eq_true rfl)⟩) (PV hPc (hK.sub (tys' := (tX6 kp ([]))) [0, 1, 2, 3, 4, 5, 6, 7, 8] rfl) hDc hN 0 rfl rfl) rfl rfl hl.1 rfl (lv_room (Nat.le_of_ble_eq_true rfl)) (zat zrX5_surestQuestion_0_ok 12 rfl) ⟨(Nat.le_of_ble_eq_true rfl), (Nat.le_of_ble_eq_true rfl)⟩)) (fun r21 _ H locs hw hP hD _ hS => ?_)
        obtain ⟨hw, br21⟩ := hw
        obtain rfl := hw.symm
        obtain ⟨hP, hD⟩ := pd_mk (bX4 a1 un kn n_n (bX6 a0 up kp p_p [])) hP hD
        have J39 : ∀ (v39_t0 : Int64) (H : Heap) (locs : List Loc) (ls : Array Slot), f_X5_surestQuestion_J39 (f_X5_surestQuestion_L9 k2 p_p n_n n9) v9_l3 v9_l4 v9_l6 v39_t0 = some out → va_P (dC, dI) vwCl (bX4 a1 un kn n_n (bX6 a0 up kp p_p [])) H → va_D A (bX4 a1 un kn n_n (bX6 a0 up kp p_p [])) → va_S A s.heap H locs → lv_has ls 9 [(6, .int v9_l6), (4, .long v9_l4), (3, .int v9_l3), (0, .ref a0), (1, .ref a1), (2, .int k2)] → W p l e (headSpec vfX5_surestQuestion { frames := 4, cells := 0, slots := 0, locals := 95 }).room s m ([.ref a0, .ref a1, .int k2]).toArray below meth c H locs 0 0 QQ (F0 m 39 ls [.long v39_t0]) := by
          intro v39_t0 H locs ls h  hP hD hS hl
          rw [f_X5_surestQuestion_J39] at h
          refine lv_lstore (lv' := [(7, .long v39_t0), (6, .int v9_l6), (4, .long v9_l4), (3, .int v9_l3), (0, .ref a0), (1, .ref a1), (2, .int k2)]) hx hb (zat zrX5_surestQuestion_0_ok 21 rfl) hl (by decide) rfl (fun ls hl => ?_)
          refine lv_lload hx hb (zat zrX5_surestQuestion_0_ok 22 rfl) (lv_at hl 0 rfl) ?_
          refine lv_lload hx hb (zat zrX5_surestQuestion_0_ok 23 rfl) (lv_at hl 2 rfl) ?_
          refine W.lcmp hx hb (zat zrX5_surestQuestion_0_ok 24 rfl) ?_
          have J56 : ∀ (v56_l4 : Int64) (v56_l3 : Int32) (H : Heap) (locs : List Loc) (ls : Array Slot), f_X5_surestQuestion_J56 (f_X5_surestQuestion_L9 k2 p_p n_n n9) v9_l6 v56_l4 v56_l3 = some out → va_P (dC, dI) vwCl (bX4 a1 un kn n_n (bX6 a0 up kp p_p [])) H → va_D A (bX4 a1 un kn n_n (bX6 a0 up kp p_p [])) → va_S A s.heap H locs → lv_has ls 9 [(6, .int v9_l6), (4, .long v56_l4), (3, .int v56_l3), (0, .ref a0), (1, .ref a1), (2, .int k2)] → W p l e (headSpec vfX5_surestQuestion { frames := 4, cells := 0, slots := 0, locals := 95 }).room s m ([.ref a0, .ref a1, .int k2]).toArray below meth c H locs 0 0 QQ (F0 m 56 ls []) := by
            intro v56_l4 v56_l3 H locs ls h  hP hD hS hl
            rw [f_X5_surestQuestion_J56] at h
            refine lv_iinc (v := (v9_l6 + (1 : Int32))) (lv' := [(6, .int (v9_l6 + (1 : Int32))), (4, .long v56_l4), (3, .int v56_l3), (0, .ref a0), (1, .ref a1), (2, .int k2)]) hx hb (zat zrX5_surestQuestion_0_ok 30 rfl) hl (k := 0) rfl rfl (by decide) rfl (fun ls hl => ?_)
            refine lv_goto (tgt := 9) hx hb (zat zrX5_surestQuestion_0_ok 31 rfl) (by decide) ?_
            exact ih9 (v9_l6 + (1 : Int32)) v56_l4 v56_l3 H _ ls h  (hP.sub (ws' := (bX6 a0 up kp p_p (bX4 a1 un kn n_n []))) [5, 6, 7, 8, 9, 10, 11, 12, 13, 14, 0, 1, 2, 3, 4] rfl) (hD.sub (ws' := (bX6 a0 up kp p_p (bX4 a1 un kn n_n []))) [5, 6, 7, 8, 9, 10, 11, 12, 13, 14, 0, 1, 2, 3, 4] (by decide) rfl) hS (lv_sub hl [0, 1, 2, 3, 4, 5] rfl)
          refine lv_if_le (tgt := 56) hx hb (zat zrX5_surestQuestion_0_ok 25 rfl) (by decide) (fun c46 => ?_) (fun c46 => ?_)
          · have h := (if_pos c46).symm.trans h
            exact J56 v9_l4 v9_l3 H _ ls h  hP hD hS (lv_sub hl [1, 2, 3, 4, 5, 6] rfl)
          · have h := (if_neg c46).symm.trans h
            refine lv_lload hx hb (zat zrX5_surestQuestion_0_ok 26 rfl) (lv_at hl 0 rfl) ?_
            refine lv_lstore (lv' := [(4, .long v39_t0), (7, .long v39_t0), (6, .int v9_l6), (3, .int v9_l3), (0, .ref a0), (1, .ref a1), (2, .int k2)]) hx hb (zat zrX5_surestQuestion_0_ok 27 rfl) hl (by decide) rfl (fun ls hl => ?_)
            refine lv_iload hx hb (zat zrX5_surestQuestion_0_ok 28 rfl) (lv_at hl 2 rfl) ?_
            refine lv_istore_n (lv' := [(3, .int v9_l6), (4, .long v39_t0), (7, .long v39_t0), (6, .int v9_l6), (0, .ref a0), (1, .ref a1), (2, .int k2)]) hx hb (zat zrX5_surestQuestion_0_ok 29 rfl) rfl hl (by decide) rfl (fun ls hl => ?_)
            exact J56 v39_t0 v9_l6 H _ ls h  hP hD hS (lv_sub hl [3, 1, 0, 4, 5, 6] rfl)
        refine lv_if_eq (tgt := 38) hx hb (zat zrX5_surestQuestion_0_ok 13 rfl) (by decide) (fun c24 => ?_) (fun c24 => ?_)
        · have h := (if_pos c24).symm.trans h
          refine lv_lconst (v := 0) hx hb (zat zrX5_surestQuestion_0_ok 20 rfl) (by decide) ?_
          exact J39 (0 : Int64) H _ ls h  hP hD hS (lv_sub hl [0, 1, 2, 3, 4, 5] rfl)
        · have h := (if_neg c24).symm.trans h
          refine lv_aload_n hx hb (zat zrX5_surestQuestion_0_ok 14 rfl) rfl (lv_at hl 3 rfl) ?_
          refine lv_aload_n hx hb (zat zrX5_surestQuestion_0_ok 15 rfl) rfl (lv_at hl 4 rfl) ?_
          refine lv_iload_n hx hb (zat zrX5_surestQuestion_0_ok 16 rfl) rfl (lv_at hl 5 rfl) ?_
          refine lv_iload hx hb (zat zrX5_surestQuestion_0_ok 17 rfl) (lv_at hl 0 rfl) ?_
          obtain ⟨o32, eo32, h⟩ := bd_of h
          refine ck_l (wc := (bX6 a0 up kp p_p (bX4 a1 un kn n_n []))) (wr := []) hP hD hK hS hA [5, 6, 7, 8, 9, 10, 11, 12, 13, 14, 0, 1, 2, 3, 4] [] rfl rfl (by decide) (by decide) (by decide) (fun hPc hDc => (va_runS (As := [.ref a0, .ref a1, .int k2, .int v9_l6]) (rest := []) ⟨hx, hb, hml, hown, hts⟩ (kfX5_chance l dC dI a0 a1 k2 v9_l6 up kp un kn p_p n_n H.size o32 eo32) (va_cwS 4 hts gfX5_surestQuestion_2 rfl rfl rfl (by decide +kernel) ⟨(Nat.le_of_ble_eq_true rfl), (Nat.le_of_ble_eq_true rfl)⟩) (PS hPc (hK.sub (tys' := (tX6 kp (tX4 kn ([])))) [0, 1, 2, 3, 4, 5, 6, 7, 8, 9, 10, 11, 12] rfl) hDc hN) rfl rfl hl.1 rfl (lv_room (Nat.le_of_ble_eq_true rfl)) (zat zrX5_surestQuestion_0_ok 18 rfl) ⟨(Nat.le_of_ble_eq_true rfl), (Nat.le_of_ble_eq_true rfl)⟩)) (fun r32 _ H locs hw hP hD _ hS => ?_)
          obtain rfl := hw.symm
          obtain ⟨hP, hD⟩ := pd_mk (bX6 a0 up kp p_p (bX4 a1 un kn n_n [])) hP hD
          refine lv_goto (tgt := 39) hx hb (zat zrX5_surestQuestion_0_ok 19 rfl) (by decide) ?_
          exact J39 o32 H _ ls h  (hP.sub (ws' := (bX4 a1 un kn n_n (bX6 a0 up kp p_p []))) [10, 11, 12, 13, 14, 0, 1, 2, 3, 4, 5, 6, 7, 8, 9] rfl) (hD.sub (ws' := (bX4 a1 un kn n_n (bX6 a0 up kp p_p []))) [10, 11, 12, 13, 14, 0, 1, 2, 3, 4, 5, 6, 7, 8, 9] (by decide) rfl) hS (lv_sub hl [0, 1, 2, 3, 4, 5] rfl)
  exact L9 FU (0 : Int32) (0 : Int64) (-2 : Int32) s.heap _ ls h  hP hD hS (lv_sub hl [0, 1, 2, 3, 4, 5] rfl)
noncomputable def zrX10_surest_0 : List ZR := zc 0 true (.aload_n 0) 1 (zc 1 true (.aload_n 0) 1 (zc 2 true (.iload_n 1) 1 (zc 3 true (.invokevirtual 210) 3 (zc 6 true (.invokevirtual 79) 3 (zc 9 true (.ifCond .eq 5) 3 (zc 12 true (.iconst (-1)) 1 (zc 13 true (.ireturn) 1 (zc 14 true (.aload_n 0) 1 (zc 15 true (.getfield 10) 3 (zc 18 true (.aload_n 0) 1 (zc 19 true (.getfield 29) 3 (zc 22 true (.iload_n 1) 1 (zc 23 true (.invokestatic 213) 3 (zc 26 true (.ireturn) 1 ([])))))))))))))))
theorem zrX10_surest_0_ok : zck 0 ((zby cX10_surest).drop 0) zrX10_surest_0 = true := by decide +kernel
def vfX10_surest : List Cond := List.cons (.code yX10_surest cX10_surest 2 (some .int)) (apW [.methodLink RX10 210 yX10_thereTrouble, .instanceMethod yX10_thereTrouble, .selects RX10 yX10_thereTrouble yX10_thereTrouble, .initialized RX10, .methodLink RX10 79 yX10_refused, .instanceMethod yX10_refused, .selects RX10 yX10_refused yX10_refused, .fieldLink RX10 10 "HookPier" "plan" "LHookPier$Plan;", .fieldLink RX10 29 "HookPier" "now" "LHookPier$Now;", .methodLink RX10 213 yX5_surestQuestion, .static yX5_surestQuestion, .initialized RX5] (apW wsX100 (apW vfX10_thereTrouble (apW vfX10_refused (vfX5_surestQuestion)))))
theorem ifX10_surest_X10 : ∀ w ∈ wsX100, w ∈ vfX10_surest := fun _ h => (List.mem_cons_of_mem _ (List.mem_append_right _ (List.mem_append_left _ h)))
theorem qfX10_surest : Good vfX10_surest := gd_cons (by decide +kernel) (gd_app (gd_dec (by decide +kernel) : Good [.methodLink RX10 210 yX10_thereTrouble, .instanceMethod yX10_thereTrouble, .selects RX10 yX10_thereTrouble yX10_thereTrouble, .initialized RX10, .methodLink RX10 79 yX10_refused, .instanceMethod yX10_refused, .selects RX10 yX10_refused yX10_refused, .fieldLink RX10 10 "HookPier" "plan" "LHookPier$Plan;", .fieldLink RX10 29 "HookPier" "now" "LHookPier$Now;", .methodLink RX10 213 yX5_surestQuestion, .static yX5_surestQuestion, .initialized RX5]) (gd_app qsX10 (gd_app qfX10_thereTrouble (gd_app qfX10_refused qfX5_surestQuestion))))
theorem gfX10_surest_0 : GoodIn vfX10_surest (wsV RX10 210 RX10 yX10_thereTrouble vfX10_thereTrouble) := goodIn_app (goodIn_r [.methodLink RX10 210 yX10_thereTrouble, .instanceMethod yX10_thereTrouble, .selects RX10 yX10_thereTrouble yX10_thereTrouble, .initialized RX10] [1, 2, 3, 4] rfl (by decide +kernel)) (goodIn_m (fun _ h => (List.mem_cons_of_mem _ (List.mem_append_right _ (List.mem_append_right _ (List.mem_append_left _ h))))) qfX10_thereTrouble)
theorem gfX10_surest_1 : GoodIn vfX10_surest (wsV RX10 79 RX10 yX10_refused vfX10_refused) := goodIn_app (goodIn_r [.methodLink RX10 79 yX10_refused, .instanceMethod yX10_refused, .selects RX10 yX10_refused yX10_refused, .initialized RX10] [5, 6, 7, 4] rfl (by decide +kernel)) (goodIn_m (fun _ h => (List.mem_cons_of_mem _ (List.mem_append_right _ (List.mem_append_right _ (List.mem_append_right _ (List.mem_append_left _ h)))))) qfX10_refused)
theorem gfX10_surest_2 : GoodIn vfX10_surest (va_wsS RX10 213 yX5_surestQuestion vfX5_surestQuestion) := goodIn_app (goodIn_r [.methodLink RX10 213 yX5_surestQuestion, .static yX5_surestQuestion, .initialized RX5] [10, 11, 12] rfl (by decide +kernel)) (goodIn_m (fun _ h => (List.mem_cons_of_mem _ (List.mem_append_right _ (List.mem_append_right _ (List.mem_append_right _ (List.mem_append_right _ h)))))) qfX5_surestQuestion)
set_option maxHeartbeats 2000000 in
set_option maxRecDepth 100000 in
theorem kfX10_surest (l : Launch) (dC : Nat → ClassId) (dI : Nat → Nat → Nat) (a0 : Nat) (k1 : Int32) (a2 : Nat) (a3 : Nat) (up : Nat → Nat) (kp : Nat → ClassId) (un : Nat → Nat) (kn : Nat → ClassId) (x_x : TX10_x) (g9 : Value) (g10 : Value) (g11 : Value) (g12 : Value) (g13 : Value) (g14 : Value) (p_p : TX6_p) (n_n : TX4_n) (sz : Nat) (out : (Int32 × TX10_x)) (h : f_X10_surest k1 x_x p_p n_n = some out) : KCi l yX10_surest vfX10_surest ({ frames := 5, cells := 0, slots := 0, locals := 123 }) (dC, dI) [.ref a0, .int k1] sz ((a0, .inr (7, [.ref a2, g9, g10, .ref a3, g11, g12, g13, g14, .int x_x.1, .int x_x.2])) :: bX6 a2 up kp p_p (bX4 a3 un kn n_n [])) (tX6 kp (tX4 kn ([]))) (fun (r : Int32) _ => r = out.1) ((a0, .inr (7, [.ref a2, g9, g10, .ref a3, g11, g12, g13, g14, .int out.2.1, .int out.2.2])) :: bX6 a2 up kp p_p (bX4 a3 un kn n_n [])) 0 0 := by
  refine Met.ofW (cc := cX10_surest) (maxL := 2) (ret := (some .int)) (by decide) rfl ?_
  intro p e s m args below meth c s₁ B0 hml hv
  obtain ⟨rfl, hsz, hP, hK, hD0, hN⟩ := hv
  have hx := B0.exec
  have hb := B0.bytes
  have hr := B0.returns
  have hts := atoms_spec (ws := vfX10_surest) B0.pre
  have hown : s.vm.findClass RX10 = some m.cls := findClass_of_methodNamed B0.named
  have hlocks := B0.notSynchronized
  subst hsz
  have hD := hD0.self (sz := s.heap.size)
  generalize hAe : va_A ((a0, .inr (7, [.ref a2, g9, g10, .ref a3, g11, g12, g13, g14, .int x_x.1, .int x_x.2])) :: bX6 a2 up kp p_p (bX4 a3 un kn n_n [])) s.heap.size = A at hD ⊢
  have hA : ∀ q : Nat, s.heap.size ≤ q → A q := fun q h => by rw [← hAe]; exact Or.inr h
  have hS : va_S A s.heap s.heap [] := va_S.rf
  have hP : va_P (dC, dI) vwCl ((a0, .inr (7, [.ref a2, g9, g10, .ref a3, g11, g12, g13, g14, .int x_x.1, .int x_x.2])) :: bX6 a2 up kp p_p (bX4 a3 un kn n_n [])) s.heap := hP
  have hl := lv_entry ([.ref a0, .int k1]) (n := 2) (Nat.le_of_ble_eq_true rfl)
  rw [lg_entry_eq]
  generalize (lg_sl ([.ref a0, .int k1]) ++ List.replicate (2 - (lg_sl ([.ref a0, .int k1])).length) Slot.unset).toArray = ls at hl ⊢
  have hl : lv_has ls 2 [(0, .ref a0), (1, .int k1)] := hl
  refine W_q (fun QQ hQQ => ?_)
  rw [f_X10_surest] at h
  refine lv_aload_n hx hb (zat zrX10_surest_0_ok 0 rfl) rfl (lv_at hl 0 rfl) ?_
  refine lv_aload_n hx hb (zat zrX10_surest_0_ok 1 rfl) rfl (lv_at hl 0 rfl) ?_
  refine lv_iload_n hx hb (zat zrX10_surest_0_ok 2 rfl) rfl (lv_at hl 1 rfl) ?_
  obtain ⟨o3, eo3, h⟩ := bd_of h
  refine ck_i (wc := ((a0, .inr (7, [.ref a2, g9, g10, .ref a3, g11, g12, g13, g14, .int x_x.1, .int x_x.2])) :: bX6 a2 up kp p_p (bX4 a3 un kn n_n []))) (wr := []) hP hD hK hS hA [0, 1, 2, 3, 4, 5, 6, 7, 8, 9, 10, 11, 12, 13, 14, 15] [] rfl rfl (by decide) (by decide) (by decide) (fun hPc hDc => (va_runV (As := [.int k1]) (rest := [.ref a0]) ⟨hx, hb, hml, hown, hts⟩ (kfX10_thereTrouble l dC dI a0 k1 a2 a3 up kp un kn (g9) (g10) (g11) (g12) (g13) (g14) (.int x_x.1) (.int x_x.2) p_p n_n s.heap.size o3 eo3) (cwV 1 hts gfX10_surest_0 rfl rfl rfl (by decide +kernel) ⟨(Nat.le_of_ble_eq_true rfl), (Nat.le_of_ble_eq_true rfl)⟩) (PV hPc (hK.sub (tys' := (tX6 kp (tX4 kn ([])))) [0, 1, 2, 3, 4, 5, 6, 7, 8, 9, 10, 11, 12] rfl) hDc hN 0 rfl rfl) rfl rfl hl.1 rfl (lv_room (Nat.le_of_ble_eq_true rfl)) (zat zrX10_surest_0_ok 3 rfl) ⟨(Nat.le_of_ble_eq_true rfl), (Nat.le_of_ble_eq_true rfl)⟩)) (fun r3 _ H locs hw hP hD _ hS => ?_)
  obtain rfl := hw.symm
  obtain ⟨hP, hD⟩ := pd_mk ((a0, .inr (7, [.ref a2, g9, g10, .ref a3, g11, g12, g13, g14, .int x_x.1, .int x_x.2])) :: bX6 a2 up kp p_p (bX4 a3 un kn n_n [])) hP hD
  obtain ⟨o6, eo6⟩ : ∃ o, o = f_X10_refused o3 x_x := ⟨_, rfl⟩
  have h := nm_of h o6 eo6
  refine ck_i (wc := ([(a0, .inr (7, [.ref a2, g9, g10, .ref a3, g11, g12, g13, g14, .int x_x.1, .int x_x.2]))])) (wr := (bX6 a2 up kp p_p (bX4 a3 un kn n_n []))) hP hD hK hS hA [0] [1, 2, 3, 4, 5, 6, 7, 8, 9, 10, 11, 12, 13, 14, 15] rfl rfl (by decide) (by decide) (by decide) (fun hPc hDc => (va_runV (As := [.int o3]) (rest := []) ⟨hx, hb, hml, hown, hts⟩ (kfX10_refused l dC dI a0 o3 x_x (.ref a2) (g9) (g10) (.ref a3) (g11) (g12) (g13) (g14) H.size o6 eo6.symm) (cwV 1 hts gfX10_surest_1 rfl rfl rfl (by decide +kernel) ⟨(Nat.le_of_ble_eq_true rfl), (Nat.le_of_ble_eq_true rfl)⟩) (PV hPc (hK.sub (tys' := ([])) [] rfl) hDc hN 0 rfl rfl) rfl rfl hl.1 rfl (lv_room (Nat.le_of_ble_eq_true rfl)) (zat zrX10_surest_0_ok 4 rfl) ⟨(Nat.le_of_ble_eq_true rfl), (Nat.le_of_ble_eq_true rfl)⟩)) (fun r6 _ H locs hw hP hD _ hS => ?_)
  obtain ⟨hw, br6⟩ := hw
  obtain rfl := hw
  obtain ⟨hP, hD⟩ := pd_mk (bX6 a2 up kp p_p (bX4 a3 un kn n_n ([(a0, .inr (7, [.ref a2, g9, g10, .ref a3, g11, g12, g13, g14, .int o6.2.1, .int o6.2.2]))]))) hP hD
  refine lv_if_eq (tgt := 14) hx hb (zat zrX10_surest_0_ok 5 rfl) (by decide) (fun c9 => ?_) (fun c9 => ?_)
  · have h := (if_pos c9).symm.trans h
    refine lv_aload_n hx hb (zat zrX10_surest_0_ok 8 rfl) rfl (lv_at hl 0 rfl) ?_
    refine va_get (D := (dC, dI)) (ci := 7) (v := .ref a2) (C := RX10) (T := TX10) (N := 10) hx hb hts ifX10_surest_X10 hown hK hP 15 rfl rfl 0 (by decide) (hts (.fieldLink RX10 10 "HookPier" "plan" "LHookPier$Plan;") (List.mem_of_getElem? (i := 8) rfl)) (fun _ h9 => h9) rfl (zat zrX10_surest_0_ok 9 rfl) ?_
    refine lv_aload_n hx hb (zat zrX10_surest_0_ok 10 rfl) rfl (lv_at hl 0 rfl) ?_
    refine va_get (D := (dC, dI)) (ci := 7) (v := .ref a3) (C := RX10) (T := TX10) (N := 10) hx hb hts ifX10_surest_X10 hown hK hP 15 rfl rfl 3 (by decide) (hts (.fieldLink RX10 29 "HookPier" "now" "LHookPier$Now;") (List.mem_of_getElem? (i := 9) rfl)) (fun _ h9 => h9) rfl (zat zrX10_surest_0_ok 11 rfl) ?_
    refine lv_iload_n hx hb (zat zrX10_surest_0_ok 12 rfl) rfl (lv_at hl 1 rfl) ?_
    obtain ⟨o23, eo23, h⟩ := bd_of h
    refine ck_i (wc := (bX6 a2 up kp p_p (bX4 a3 un kn n_n []))) (wr := ([(a0, .inr (7, [.ref a2, g9, g10, .ref a3, g11, g12, g13, g14, .int o6.2.1, .int o6.2.2]))])) hP hD hK hS hA [0, 1, 2, 3, 4, 5, 6, 7, 8, 9, 10, 11, 12, 13, 14] [15] rfl rfl (by decide) (by decide) (by decide) (fun hPc hDc => (va_runS (As := [.ref a2, .ref a3, .int k1]) (rest := []) ⟨hx, hb, hml, hown, hts⟩ (kfX5_surestQuestion l dC dI a2 a3 k1 up kp un kn p_p n_n H.size o23 eo23) (va_cwS 3 hts gfX10_surest_2 rfl rfl rfl (by decide +kernel) ⟨(Nat.le_of_ble_eq_true rfl), (Nat.le_of_ble_eq_true rfl)⟩) (PS hPc (hK.sub (tys' := (tX6 kp (tX4 kn ([])))) [0, 1, 2, 3, 4, 5, 6, 7, 8, 9, 10, 11, 12] rfl) hDc hN) rfl rfl hl.1 rfl (lv_room (Nat.le_of_ble_eq_true rfl)) (zat zrX10_surest_0_ok 13 rfl) ⟨(Nat.le_of_ble_eq_true rfl), (Nat.le_of_ble_eq_true rfl)⟩)) (fun r23 _ H locs hw hP hD _ hS => ?_)
    obtain rfl := hw.symm
    obtain ⟨hP, hD⟩ := pd_mk ((a0, .inr (7, [.ref a2, g9, g10, .ref a3, g11, g12, g13, g14, .int o6.2.1, .int o6.2.2])) :: bX6 a2 up kp p_p (bX4 a3 un kn n_n [])) hP hD
    obtain rfl := Option.some.inj h
    obtain ⟨hP9, hD9⟩ := pd_sub ((a0, .inr (7, [.ref a2, g9, g10, .ref a3, g11, g12, g13, g14, .int o6.2.1, .int o6.2.2])) :: bX6 a2 up kp p_p (bX4 a3 un kn n_n [])) [0, 1, 2, 3, 4, 5, 6, 7, 8, 9, 10, 11, 12, 13, 14, 15] hP hD (by decide) rfl
    have hK9 := hK.sub (tys' := []) [] rfl
    rw [hQQ]
    exact W.iret (v := o23) hx hb hr (fun t ht hW => ⟨⟨o23, (), rfl, rfl, by rw [ht]; exact hP9, va_K.moved hW.alike hK9, hD9⟩, hS.F ht⟩) hS.2.2 (zat zrX10_surest_0_ok 14 rfl)
  · have h := (if_neg c9).symm.trans h
    refine lv_iconst (v := (-1)) hx hb (zat zrX10_surest_0_ok 6 rfl) (by decide) ?_
    obtain rfl := Option.some.inj h
    obtain ⟨hP9, hD9⟩ := pd_sub ((a0, .inr (7, [.ref a2, g9, g10, .ref a3, g11, g12, g13, g14, .int o6.2.1, .int o6.2.2])) :: bX6 a2 up kp p_p (bX4 a3 un kn n_n [])) [15, 0, 1, 2, 3, 4, 5, 6, 7, 8, 9, 10, 11, 12, 13, 14] hP hD (by decide) rfl
    have hK9 := hK.sub (tys' := []) [] rfl
    rw [hQQ]
    exact W.iret (v := (-1 : Int32)) hx hb hr (fun t ht hW => ⟨⟨(-1 : Int32), (), rfl, rfl, by rw [ht]; exact hP9, va_K.moved hW.alike hK9, hD9⟩, hS.F ht⟩) hS.2.2 (zat zrX10_surest_0_ok 7 rfl)
noncomputable def zrX10_surestOdds_0 : List ZR := zc 0 true (.aload_n 0) 1 (zc 1 true (.aload_n 0) 1 (zc 2 true (.iload_n 1) 1 (zc 3 true (.invokevirtual 210) 3 (zc 6 true (.invokevirtual 79) 3 (zc 9 true (.ifCond .eq 7) 3 (zc 12 true (.ldc2_w 187) 3 (zc 15 true (.lreturn) 1 (zc 16 true (.aload_n 0) 1 (zc 17 true (.getfield 10) 3 (zc 20 true (.aload_n 0) 1 (zc 21 true (.getfield 29) 3 (zc 24 true (.iload_n 1) 1 (zc 25 true (.invokestatic 213) 3 (zc 28 true (.istore_n 3) 1 (zc 29 true (.iload_n 3) 1 (zc 30 true (.bipush (-2)) 2 (zc 32 true (.if_icmp .ne 7) 3 (zc 35 true (.lconst 0) 1 (zc 36 true (.goto 16) 3 (zc 39 true (.aload_n 0) 1 (zc 40 true (.getfield 10) 3 (zc 43 true (.aload_n 0) 1 (zc 44 true (.getfield 29) 3 (zc 47 true (.iload_n 1) 1 (zc 48 true (.iload_n 3) 1 (zc 49 true (.invokestatic 189) 3 (zc 52 true (.iload_n 2) 1 (zc 53 true (.invokestatic 195) 3 (zc 56 true (.lreturn) 1 ([]))))))))))))))))))))))))))))))
theorem zrX10_surestOdds_0_ok : zck 0 ((zby cX10_surestOdds).drop 0) zrX10_surestOdds_0 = true := by decide +kernel
def vfX10_surestOdds : List Cond := List.cons (.code yX10_surestOdds cX10_surestOdds 4 (some .long)) (apW [.methodLink RX10 210 yX10_thereTrouble, .instanceMethod yX10_thereTrouble, .selects RX10 yX10_thereTrouble yX10_thereTrouble, .initialized RX10, .methodLink RX10 79 yX10_refused, .instanceMethod yX10_refused, .selects RX10 yX10_refused yX10_refused, .fieldLink RX10 10 "HookPier" "plan" "LHookPier$Plan;", .fieldLink RX10 29 "HookPier" "now" "LHookPier$Now;", .methodLink RX10 213 yX5_surestQuestion, .static yX5_surestQuestion, .initialized RX5, .methodLink RX10 195 yX5_term, .static yX5_term, .methodLink RX10 189 yX5_chance, .static yX5_chance, .constantLong RX10 187 (-1)] (apW wsX100 (apW vfX10_thereTrouble (apW vfX10_refused (apW vfX5_surestQuestion (apW vfX5_term (vfX5_chance)))))))
theorem ifX10_surestOdds_X10 : ∀ w ∈ wsX100, w ∈ vfX10_surestOdds := fun _ h => (List.mem_cons_of_mem _ (List.mem_append_right _ (List.mem_append_left _ h)))
theorem qfX10_surestOdds : Good vfX10_surestOdds := gd_cons (by decide +kernel) (gd_app (gd_dec (by decide +kernel) : Good [.methodLink RX10 210 yX10_thereTrouble, .instanceMethod yX10_thereTrouble, .selects RX10 yX10_thereTrouble yX10_thereTrouble, .initialized RX10, .methodLink RX10 79 yX10_refused, .instanceMethod yX10_refused, .selects RX10 yX10_refused yX10_refused, .fieldLink RX10 10 "HookPier" "plan" "LHookPier$Plan;", .fieldLink RX10 29 "HookPier" "now" "LHookPier$Now;", .methodLink RX10 213 yX5_surestQuestion, .static yX5_surestQuestion, .initialized RX5, .methodLink RX10 195 yX5_term, .static yX5_term, .methodLink RX10 189 yX5_chance, .static yX5_chance, .constantLong RX10 187 (-1)]) (gd_app qsX10 (gd_app qfX10_thereTrouble (gd_app qfX10_refused (gd_app qfX5_surestQuestion (gd_app qfX5_term qfX5_chance))))))
theorem gfX10_surestOdds_0 : GoodIn vfX10_surestOdds (wsV RX10 210 RX10 yX10_thereTrouble vfX10_thereTrouble) := goodIn_app (goodIn_r [.methodLink RX10 210 yX10_thereTrouble, .instanceMethod yX10_thereTrouble, .selects RX10 yX10_thereTrouble yX10_thereTrouble, .initialized RX10] [1, 2, 3, 4] rfl (by decide +kernel)) (goodIn_m (fun _ h => (List.mem_cons_of_mem _ (List.mem_append_right _ (List.mem_append_right _ (List.mem_append_left _ h))))) qfX10_thereTrouble)
theorem gfX10_surestOdds_1 : GoodIn vfX10_surestOdds (wsV RX10 79 RX10 yX10_refused vfX10_refused) := goodIn_app (goodIn_r [.methodLink RX10 79 yX10_refused, .instanceMethod yX10_refused, .selects RX10 yX10_refused yX10_refused, .initialized RX10] [5, 6, 7, 4] rfl (by decide +kernel)) (goodIn_m (fun _ h => (List.mem_cons_of_mem _ (List.mem_append_right _ (List.mem_append_right _ (List.mem_append_right _ (List.mem_append_left _ h)))))) qfX10_refused)
theorem gfX10_surestOdds_2 : GoodIn vfX10_surestOdds (va_wsS RX10 213 yX5_surestQuestion vfX5_surestQuestion) := goodIn_app (goodIn_r [.methodLink RX10 213 yX5_surestQuestion, .static yX5_surestQuestion, .initialized RX5] [10, 11, 12] rfl (by decide +kernel)) (goodIn_m (fun _ h => (List.mem_cons_of_mem _ (List.mem_append_right _ (List.mem_append_right _ (List.mem_append_right _ (List.mem_append_right _ (List.mem_append_left _ h))))))) qfX5_surestQuestion)
theorem gfX10_surestOdds_3 : GoodIn vfX10_surestOdds (va_wsS RX10 195 yX5_term vfX5_term) := goodIn_app (goodIn_r [.methodLink RX10 195 yX5_term, .static yX5_term, .initialized RX5] [13, 14, 12] rfl (by decide +kernel)) (goodIn_m (fun _ h => (List.mem_cons_of_mem _ (List.mem_append_right _ (List.mem_append_right _ (List.mem_append_right _ (List.mem_append_right _ (List.mem_append_right _ (List.mem_append_left _ h)))))))) qfX5_term)
theorem gfX10_surestOdds_4 : GoodIn vfX10_surestOdds (va_wsS RX10 189 yX5_chance vfX5_chance) := goodIn_app (goodIn_r [.methodLink RX10 189 yX5_chance, .static yX5_chance, .initialized RX5] [15, 16, 12] rfl (by decide +kernel)) (goodIn_m (fun _ h => (List.mem_cons_of_mem _ (List.mem_append_right _ (List.mem_append_right _ (List.mem_append_right _ (List.mem_append_right _ (List.mem_append_right _ (List.mem_append_right _ h)))))))) qfX5_chance)
set_option maxHeartbeats 2000000 in
set_option maxRecDepth 100000 in
theorem kfX10_surestOdds (l : Launch) (dC : Nat → ClassId) (dI : Nat → Nat → Nat) (a0 : Nat) (k1 : Int32) (k2 : Int32) (a3 : Nat) (a4 : Nat) (up : Nat → Nat) (kp : Nat → ClassId) (un : Nat → Nat) (kn : Nat → ClassId) (x_x : TX10_x) (g10 : Value) (g11 : Value) (g12 : Value) (g13 : Value) (g14 : Value) (g15 : Value) (p_p : TX6_p) (n_n : TX4_n) (sz : Nat) (out : (Int64 × TX10_x)) (h : f_X10_surestOdds k1 k2 x_x p_p n_n = some out) : KCl l yX10_surestOdds vfX10_surestOdds ({ frames := 5, cells := 0, slots := 0, locals := 123 }) (dC, dI) [.ref a0, .int k1, .int k2] sz ((a0, .inr (7, [.ref a3, g10, g11, .ref a4, g12, g13, g14, g15, .int x_x.1, .int x_x.2])) :: bX6 a3 up kp p_p (bX4 a4 un kn n_n [])) (tX6 kp (tX4 kn ([]))) (fun (r : Int64) _ => r = out.1) ((a0, .inr (7, [.ref a3, g10, g11, .ref a4, g12, g13, g14, g15, .int out.2.1, .int out.2.2])) :: bX6 a3 up kp p_p (bX4 a4 un kn n_n [])) 0 0 := by
  refine Met.ofW (cc := cX10_surestOdds) (maxL := 4) (ret := (some .long)) (by decide) rfl ?_
  intro p e s m args below meth c s₁ B0 hml hv
  obtain ⟨rfl, hsz, hP, hK, hD0, hN⟩ := hv
  have hx := B0.exec
  have hb := B0.bytes
  have hr := B0.returns
  have hts := atoms_spec (ws := vfX10_surestOdds) B0.pre
  have hown : s.vm.findClass RX10 = some m.cls := findClass_of_methodNamed B0.named
  have hlocks := B0.notSynchronized
  subst hsz
  have hD := hD0.self (sz := s.heap.size)
  generalize hAe : va_A ((a0, .inr (7, [.ref a3, g10, g11, .ref a4, g12, g13, g14, g15, .int x_x.1, .int x_x.2])) :: bX6 a3 up kp p_p (bX4 a4 un kn n_n [])) s.heap.size = A at hD ⊢
  have hA : ∀ q : Nat, s.heap.size ≤ q → A q := fun q h => by rw [← hAe]; exact Or.inr h
  have hS : va_S A s.heap s.heap [] := va_S.rf
  have hP : va_P (dC, dI) vwCl ((a0, .inr (7, [.ref a3, g10, g11, .ref a4, g12, g13, g14, g15, .int x_x.1, .int x_x.2])) :: bX6 a3 up kp p_p (bX4 a4 un kn n_n [])) s.heap := hP
  have hl := lv_entry ([.ref a0, .int k1, .int k2]) (n := 4) (Nat.le_of_ble_eq_true rfl)
  rw [lg_entry_eq]
  generalize (lg_sl ([.ref a0, .int k1, .int k2]) ++ List.replicate (4 - (lg_sl ([.ref a0, .int k1, .int k2])).length) Slot.unset).toArray = ls at hl ⊢
  have hl : lv_has ls 4 [(0, .ref a0), (1, .int k1), (2, .int k2)] := hl
  refine W_q (fun QQ hQQ => ?_)
  rw [f_X10_surestOdds] at h
  refine lv_aload_n hx hb (zat zrX10_surestOdds_0_ok 0 rfl) rfl (lv_at hl 0 rfl) ?_
  refine lv_aload_n hx hb (zat zrX10_surestOdds_0_ok 1 rfl) rfl (lv_at hl 0 rfl) ?_
  refine lv_iload_n hx hb (zat zrX10_surestOdds_0_ok 2 rfl) rfl (lv_at hl 1 rfl) ?_
  obtain ⟨o3, eo3, h⟩ := bd_of h
  refine ck_i (wc := ((a0, .inr (7, [.ref a3, g10, g11, .ref a4, g12, g13, g14, g15, .int x_x.1, .int x_x.2])) :: bX6 a3 up kp p_p (bX4 a4 un kn n_n []))) (wr := []) hP hD hK hS hA [0, 1, 2, 3, 4, 5, 6, 7, 8, 9, 10, 11, 12, 13, 14, 15] [] rfl rfl (by decide) (by decide) (by decide) (fun hPc hDc => (va_runV (As := [.int k1]) (rest := [.ref a0]) ⟨hx, hb, hml, hown, hts⟩ (kfX10_thereTrouble l dC dI a0 k1 a3 a4 up kp un kn (g10) (g11) (g12) (g13) (g14) (g15) (.int x_x.1) (.int x_x.2) p_p n_n s.heap.size o3 eo3) (cwV 1 hts gfX10_surestOdds_0 rfl rfl rfl (by decide +kernel) ⟨(Nat.le_of_ble_eq_true rfl), (Nat.le_of_ble_eq_true rfl)⟩) (PV hPc (hK.sub (tys' := (tX6 kp (tX4 kn ([])))) [0, 1, 2, 3, 4, 5, 6, 7, 8, 9, 10, 11, 12] rfl) hDc hN 0 rfl rfl) rfl rfl hl.1 rfl (lv_room (Nat.le_of_ble_eq_true rfl)) (zat zrX10_surestOdds_0_ok 3 rfl) ⟨(Nat.le_of_ble_eq_true rfl), (Nat.le_of_ble_eq_true rfl)⟩)) (fun r3 _ H locs hw hP hD _ hS => ?_)
  obtain rfl := hw.symm
  obtain ⟨hP, hD⟩ := pd_mk ((a0, .inr (7, [.ref a3, g10, g11, .ref a4, g12, g13, g14, g15, .int x_x.1, .int x_x.2])) :: bX6 a3 up kp p_p (bX4 a4 un kn n_n [])) hP hD
  obtain ⟨o6, eo6⟩ : ∃ o, o = f_X10_refused o3 x_x := ⟨_, rfl⟩
  have h := nm_of h o6 eo6
  refine ck_i (wc := ([(a0, .inr (7, [.ref a3, g10, g11, .ref a4, g12, g13, g14, g15, .int x_x.1, .int x_x.2]))])) (wr := (bX6 a3 up kp p_p (bX4 a4 un kn n_n []))) hP hD hK hS hA [0] [1, 2, 3, 4, 5, 6, 7, 8, 9, 10, 11, 12, 13, 14, 15] rfl rfl (by decide) (by decide) (by decide) (fun hPc hDc => (va_runV (As := [.int o3]) (rest := []) ⟨hx, hb, hml, hown, hts⟩ (kfX10_refused l dC dI a0 o3 x_x (.ref a3) (g10) (g11) (.ref a4) (g12) (g13) (g14) (g15) H.size o6 eo6.symm) (cwV 1 hts gfX10_surestOdds_1 rfl rfl rfl (by decide +kernel) ⟨(Nat.le_of_ble_eq_true rfl), (Nat.le_of_ble_eq_true rfl)⟩) (PV hPc (hK.sub (tys' := ([])) [] rfl) hDc hN 0 rfl rfl) rfl rfl hl.1 rfl (lv_room (Nat.le_of_ble_eq_true rfl)) (zat zrX10_surestOdds_0_ok 4 rfl) ⟨(Nat.le_of_ble_eq_true rfl), (Nat.le_of_ble_eq_true rfl)⟩)) (fun r6 _ H locs hw hP hD _ hS => ?_)
  obtain ⟨hw, br6⟩ := hw
  obtain rfl := hw
  obtain ⟨hP, hD⟩ := pd_mk (bX6 a3 up kp p_p (bX4 a4 un kn n_n ([(a0, .inr (7, [.ref a3, g10, g11, .ref a4, g12, g13, g14, g15, .int o6.2.1, .int o6.2.2]))]))) hP hD
  refine lv_if_eq (tgt := 16) hx hb (zat zrX10_surestOdds_0_ok 5 rfl) (by decide) (fun c9 => ?_) (fun c9 => ?_)
  · have h := (if_pos c9).symm.trans h
    refine lv_aload_n hx hb (zat zrX10_surestOdds_0_ok 8 rfl) rfl (lv_at hl 0 rfl) ?_
    refine va_get (D := (dC, dI)) (ci := 7) (v := .ref a3) (C := RX10) (T := TX10) (N := 10) hx hb hts ifX10_surestOdds_X10 hown hK hP 15 rfl rfl 0 (by decide) (hts (.fieldLink RX10 10 "HookPier" "plan" "LHookPier$Plan;") (List.mem_of_getElem? (i := 8) rfl)) (fun _ h9 => h9) rfl (zat zrX10_surestOdds_0_ok 9 rfl) ?_
    refine lv_aload_n hx hb (zat zrX10_surestOdds_0_ok 10 rfl) rfl (lv_at hl 0 rfl) ?_
    refine va_get (D := (dC, dI)) (ci := 7) (v := .ref a4) (C := RX10) (T := TX10) (N := 10) hx hb hts ifX10_surestOdds_X10 hown hK hP 15 rfl rfl 3 (by decide) (hts (.fieldLink RX10 29 "HookPier" "now" "LHookPier$Now;") (List.mem_of_getElem? (i := 9) rfl)) (fun _ h9 => h9) rfl (zat zrX10_surestOdds_0_ok 11 rfl) ?_
    refine lv_iload_n hx hb (zat zrX10_surestOdds_0_ok 12 rfl) rfl (lv_at hl 1 rfl) ?_
    obtain ⟨o25, eo25, h⟩ := bd_of h
    refine ck_i (wc := (bX6 a3 up kp p_p (bX4 a4 un kn n_n []))) (wr := ([(a0, .inr (7, [.ref a3, g10, g11, .ref a4, g12, g13, g14, g15, .int o6.2.1, .int o6.2.2]))])) hP hD hK hS hA [0, 1, 2, 3, 4, 5, 6, 7, 8, 9, 10, 11, 12, 13, 14] [15] rfl rfl (by decide) (by decide) (by decide) (fun hPc hDc => (va_runS (As := [.ref a3, .ref a4, .int k1]) (rest := []) ⟨hx, hb, hml, hown, hts⟩ (kfX5_surestQuestion l dC dI a3 a4 k1 up kp un kn p_p n_n H.size o25 eo25) (va_cwS 3 hts gfX10_surestOdds_2 rfl rfl rfl (by decide +kernel) ⟨(Nat.le_of_ble_eq_true rfl), (Nat.le_of_ble_eq_true rfl)⟩) (PS hPc (hK.sub (tys' := (tX6 kp (tX4 kn ([])))) [0, 1, 2, 3, 4, 5, 6, 7, 8, 9, 10, 11, 12] rfl) hDc hN) rfl rfl hl.1 rfl (lv_room (Nat.le_of_ble_eq_true rfl)) (zat zrX10_surestOdds_0_ok 13 rfl) ⟨(Nat.le_of_ble_eq_true rfl), (Nat.le_of_ble_eq_true rfl)⟩)) (fun r25 _ H locs hw hP hD _ hS => ?_)
    obtain rfl := hw.symm
    obtain ⟨hP, hD⟩ := pd_mk ((a0, .inr (7, [.ref a3, g10, g11, .ref a4, g12, g13, g14, g15, .int o6.2.1, .int o6.2.2])) :: bX6 a3 up kp p_p (bX4 a4 un kn n_n [])) hP hD
    refine lv_istore_n (lv' := [(3, .int o25), (0, .ref a0), (1, .int k1), (2, .int k2)]) hx hb (zat zrX10_surestOdds_0_ok 14 rfl) rfl hl (by decide) rfl (fun ls hl => ?_)
    refine lv_iload_n hx hb (zat zrX10_surestOdds_0_ok 15 rfl) rfl (lv_at hl 0 rfl) ?_
    refine lv_bipush (v := (-2)) hx hb (zat zrX10_surestOdds_0_ok 16 rfl) (by decide) ?_
    have J52 : ∀ (v52_t0 : Int64) (H : Heap) (locs : List Loc) (ls : Array Slot), f_X10_surestOdds_J52 k2 o6 v52_t0 = some out → va_P (dC, dI) vwCl ((a0, .inr (7, [.ref a3, g10, g11, .ref a4, g12, g13, g14, g15, .int o6.2.1, .int o6.2.2])) :: bX6 a3 up kp p_p (bX4 a4 un kn n_n [])) H → va_D A ((a0, .inr (7, [.ref a3, g10, g11, .ref a4, g12, g13, g14, g15, .int o6.2.1, .int o6.2.2])) :: bX6 a3 up kp p_p (bX4 a4 un kn n_n [])) → va_S A s.heap H locs → lv_has ls 4 [(2, .int k2)] → W p l e (headSpec vfX10_surestOdds { frames := 5, cells := 0, slots := 0, locals := 123 }).room s m ([.ref a0, .int k1, .int k2]).toArray below meth c H locs 0 0 QQ (F0 m 52 ls [.long v52_t0]) := by
      intro v52_t0 H locs ls h  hP hD hS hl
      rw [f_X10_surestOdds_J52] at h
      refine lv_iload_n hx hb (zat zrX10_surestOdds_0_ok 27 rfl) rfl (lv_at hl 0 rfl) ?_
      obtain ⟨o53, eo53, h⟩ := bd_of h
      refine ck_l (wc := []) (wr := ((a0, .inr (7, [.ref a3, g10, g11, .ref a4, g12, g13, g14, g15, .int o6.2.1, .int o6.2.2])) :: bX6 a3 up kp p_p (bX4 a4 un kn n_n []))) hP hD hK hS hA [] [0, 1, 2, 3, 4, 5, 6, 7, 8, 9, 10, 11, 12, 13, 14, 15] rfl rfl (by decide) (by decide) (by decide) (fun hPc hDc => (va_runS (As := [.long v52_t0, .int k2]) (rest := []) ⟨hx, hb, hml, hown, hts⟩ (kfX5_term l dC dI v52_t0 k2 H.size o53 eo53) (va_cwS 2 hts gfX10_surestOdds_3 rfl rfl rfl (by decide +kernel) ⟨(Nat.le_of_ble_eq_true rfl), (Nat.le_of_ble_eq_true rfl)⟩) (PS hPc (hK.sub (tys' := ([])) [] rfl) hDc hN) rfl rfl hl.1 rfl (lv_room (Nat.le_of_ble_eq_true rfl)) (zat zrX10_surestOdds_0_ok 28 rfl) ⟨(Nat.le_of_ble_eq_true rfl), (Nat.le_of_ble_eq_true rfl)⟩)) (fun r53 _ H locs hw hP hD _ hS => ?_)
      obtain rfl := hw.symm
      obtain ⟨hP, hD⟩ := pd_mk ((a0, .inr (7, [.ref a3, g10, g11, .ref a4, g12, g13, g14, g15, .int o6.2.1, .int o6.2.2])) :: bX6 a3 up kp p_p (bX4 a4 un kn n_n [])) hP hD
      obtain rfl := Option.some.inj h
      obtain ⟨hP9, hD9⟩ := pd_sub ((a0, .inr (7, [.ref a3, g10, g11, .ref a4, g12, g13, g14, g15, .int o6.2.1, .int o6.2.2])) :: bX6 a3 up kp p_p (bX4 a4 un kn n_n [])) [0, 1, 2, 3, 4, 5, 6, 7, 8, 9, 10, 11, 12, 13, 14, 15] hP hD (by decide) rfl
      have hK9 := hK.sub (tys' := []) [] rfl
      rw [hQQ]
      exact W.lret (v := o53) hx hb hr (fun t ht hW => ⟨⟨o53, (), rfl, rfl, by rw [ht]; exact hP9, va_K.moved hW.alike hK9, hD9⟩, hS.F ht⟩) hS.2.2 (zat zrX10_surestOdds_0_ok 29 rfl)
    refine lv_icmp_ne (tgt := 39) hx hb (zat zrX10_surestOdds_0_ok 17 rfl) (by decide) (fun c32 => ?_) (fun c32 => ?_)
    · have h := (if_neg c32).symm.trans h
      refine lv_aload_n hx hb (zat zrX10_surestOdds_0_ok 20 rfl) rfl (lv_at hl 1 rfl) ?_
      refine va_get (D := (dC, dI)) (ci := 7) (v := .ref a3) (C := RX10) (T := TX10) (N := 10) hx hb hts ifX10_surestOdds_X10 hown hK hP 0 rfl rfl 0 (by decide) (hts (.fieldLink RX10 10 "HookPier" "plan" "LHookPier$Plan;") (List.mem_of_getElem? (i := 8) rfl)) (fun _ h9 => h9) rfl (zat zrX10_surestOdds_0_ok 21 rfl) ?_
      refine lv_aload_n hx hb (zat zrX10_surestOdds_0_ok 22 rfl) rfl (lv_at hl 1 rfl) ?_
      refine va_get (D := (dC, dI)) (ci := 7) (v := .ref a4) (C := RX10) (T := TX10) (N := 10) hx hb hts ifX10_surestOdds_X10 hown hK hP 0 rfl rfl 3 (by decide) (hts (.fieldLink RX10 29 "HookPier" "now" "LHookPier$Now;") (List.mem_of_getElem? (i := 9) rfl)) (fun _ h9 => h9) rfl (zat zrX10_surestOdds_0_ok 23 rfl) ?_
      refine lv_iload_n hx hb (zat zrX10_surestOdds_0_ok 24 rfl) rfl (lv_at hl 2 rfl) ?_
      refine lv_iload_n hx hb (zat zrX10_surestOdds_0_ok 25 rfl) rfl (lv_at hl 0 rfl) ?_
      obtain ⟨o49, eo49, h⟩ := bd_of h
      refine ck_l (wc := (bX6 a3 up kp p_p (bX4 a4 un kn n_n []))) (wr := ([(a0, .inr (7, [.ref a3, g10, g11, .ref a4, g12, g13, g14, g15, .int o6.2.1, .int o6.2.2]))])) hP hD hK hS hA [1, 2, 3, 4, 5, 6, 7, 8, 9, 10, 11, 12, 13, 14, 15] [0] rfl rfl (by decide) (by decide) (by decide) (fun hPc hDc => (va_runS (As := [.ref a3, .ref a4, .int k1, .int o25]) (rest := []) ⟨hx, hb, hml, hown, hts⟩ (kfX5_chance l dC dI a3 a4 k1 o25 up kp un kn p_p n_n H.size o49 eo49) (va_cwS 4 hts gfX10_surestOdds_4 rfl rfl rfl (by decide +kernel) ⟨(Nat.le_of_ble_eq_true rfl), (Nat.le_of_ble_eq_true rfl)⟩) (PS hPc (hK.sub (tys' := (tX6 kp (tX4 kn ([])))) [0, 1, 2, 3, 4, 5, 6, 7, 8, 9, 10, 11, 12] rfl) hDc hN) rfl rfl hl.1 rfl (lv_room (Nat.le_of_ble_eq_true rfl)) (zat zrX10_surestOdds_0_ok 26 rfl) ⟨(Nat.le_of_ble_eq_true rfl), (Nat.le_of_ble_eq_true rfl)⟩)) (fun r49 _ H locs hw hP hD _ hS => ?_)
      obtain rfl := hw.symm
      obtain ⟨hP, hD⟩ := pd_mk ((a0, .inr (7, [.ref a3, g10, g11, .ref a4, g12, g13, g14, g15, .int o6.2.1, .int o6.2.2])) :: bX6 a3 up kp p_p (bX4 a4 un kn n_n [])) hP hD
      exact J52 o49 H _ ls h  hP hD hS (lv_sub hl [3] rfl)
    · have h := (if_pos c32).symm.trans h
      refine lv_lconst (v := 0) hx hb (zat zrX10_surestOdds_0_ok 18 rfl) (by decide) ?_
      refine lv_goto (tgt := 52) hx hb (zat zrX10_surestOdds_0_ok 19 rfl) (by decide) ?_
      exact J52 (0 : Int64) H _ ls h  hP hD hS (lv_sub hl [3] rfl)
  · have h := (if_neg c9).symm.trans h
    refine lv_ldc2 hx hb hown (hts (.constantLong RX10 187 (-1)) (List.mem_of_getElem? (i := 17) rfl)) (zat zrX10_surestOdds_0_ok 6 rfl) ?_
    obtain rfl := Option.some.inj h
    obtain ⟨hP9, hD9⟩ := pd_sub ((a0, .inr (7, [.ref a3, g10, g11, .ref a4, g12, g13, g14, g15, .int o6.2.1, .int o6.2.2])) :: bX6 a3 up kp p_p (bX4 a4 un kn n_n [])) [15, 0, 1, 2, 3, 4, 5, 6, 7, 8, 9, 10, 11, 12, 13, 14] hP hD (by decide) rfl
    have hK9 := hK.sub (tys' := []) [] rfl
    rw [hQQ]
    exact W.lret (v := (-1 : Int64)) hx hb hr (fun t ht hW => ⟨⟨(-1 : Int64), (), rfl, rfl, by rw [ht]; exact hP9, va_K.moved hW.alike hK9, hD9⟩, hS.F ht⟩) hS.2.2 (zat zrX10_surestOdds_0_ok 7 rfl)
noncomputable def zrX5_worthiestQuestion_0 : List ZR := zc 0 true (.bipush (-2)) 2 (zc 2 true (.istore_n 2) 1 (zc 3 true (.lconst 0) 1 (zc 4 true (.lstore_n 3) 1 (zc 5 true (.iconst 0) 1 (zc 6 true (.istore 5) 2 (zc 8 true (.iload 5) 2 (zc 10 true (.aload_n 0) 1 (zc 11 true (.invokevirtual 41) 3 (zc 14 true (.if_icmp .ge 44) 3 (zc 17 true (.aload_n 0) 1 (zc 18 true (.iload 5) 2 (zc 20 true (.invokevirtual 45) 3 (zc 23 true (.ifCond .eq 13) 3 (zc 26 true (.aload_n 0) 1 (zc 27 true (.aload_n 1) 1 (zc 28 true (.iload 5) 2 (zc 30 true (.invokestatic 49) 3 (zc 33 true (.goto 4) 3 (zc 36 true (.lconst 0) 1 (zc 37 true (.lstore 6) 2 (zc 39 true (.lload 6) 2 (zc 41 true (.lload_n 3) 1 (zc 42 true (.lcmp) 1 (zc 43 true (.ifCond .le 9) 3 (zc 46 true (.lload 6) 2 (zc 48 true (.lstore_n 3) 1 (zc 49 true (.iload 5) 2 (zc 51 true (.istore_n 2) 1 (zc 52 true (.iinc 5 1) 3 (zc 55 true (.goto (-47)) 3 (zc 58 true (.iload_n 2) 1 (zc 59 true (.ireturn) 1 ([])))))))))))))))))))))))))))))))))
theorem zrX5_worthiestQuestion_0_ok : zck 0 ((zby cX5_worthiestQuestion).drop 0) zrX5_worthiestQuestion_0 = true := by decide +kernel
def vfX5_worthiestQuestion : List Cond := List.cons (.code yX5_worthiestQuestion cX5_worthiestQuestion 8 (some .int)) (apW [.methodLink RX5 41 yX6_questionBound, .instanceMethod yX6_questionBound, .selects RX6 yX6_questionBound yX6_questionBound, .initialized RX6, .methodLink RX5 45 yX6_hasQuestion, .instanceMethod yX6_hasQuestion, .selects RX6 yX6_hasQuestion yX6_hasQuestion, .methodLink RX5 49 yX5_meanWorth, .static yX5_meanWorth, .initialized RX5] (apW vfX6_questionBound (apW vfX6_hasQuestion (vfX5_meanWorth))))
theorem qfX5_worthiestQuestion : Good vfX5_worthiestQuestion := gd_cons (by decide +kernel) (gd_app (gd_dec (by decide +kernel) : Good [.methodLink RX5 41 yX6_questionBound, .instanceMethod yX6_questionBound, .selects RX6 yX6_questionBound yX6_questionBound, .initialized RX6, .methodLink RX5 45 yX6_hasQuestion, .instanceMethod yX6_hasQuestion, .selects RX6 yX6_hasQuestion yX6_hasQuestion, .methodLink RX5 49 yX5_meanWorth, .static yX5_meanWorth, .initialized RX5]) (gd_app qfX6_questionBound (gd_app qfX6_hasQuestion qfX5_meanWorth)))
theorem gfX5_worthiestQuestion_0 : GoodIn vfX5_worthiestQuestion (wsV RX5 41 RX6 yX6_questionBound vfX6_questionBound) := goodIn_app (goodIn_r [.methodLink RX5 41 yX6_questionBound, .instanceMethod yX6_questionBound, .selects RX6 yX6_questionBound yX6_questionBound, .initialized RX6] [1, 2, 3, 4] rfl (by decide +kernel)) (goodIn_m (fun _ h => (List.mem_cons_of_mem _ (List.mem_append_right _ (List.mem_append_left _ h)))) qfX6_questionBound)
theorem gfX5_worthiestQuestion_1 : GoodIn vfX5_worthiestQuestion (wsV RX5 45 RX6 yX6_hasQuestion vfX6_hasQuestion) := goodIn_app (goodIn_r [.methodLink RX5 45 yX6_hasQuestion, .instanceMethod yX6_hasQuestion, .selects RX6 yX6_hasQuestion yX6_hasQuestion, .initialized RX6] [5, 6, 7, 4] rfl (by decide +kernel)) (goodIn_m (fun _ h => (List.mem_cons_of_mem _ (List.mem_append_right _ (List.mem_append_right _ (List.mem_append_left _ h))))) qfX6_hasQuestion)
theorem gfX5_worthiestQuestion_2 : GoodIn vfX5_worthiestQuestion (va_wsS RX5 49 yX5_meanWorth vfX5_meanWorth) := goodIn_app (goodIn_r [.methodLink RX5 49 yX5_meanWorth, .static yX5_meanWorth, .initialized RX5] [8, 9, 10] rfl (by decide +kernel)) (goodIn_m (fun _ h => (List.mem_cons_of_mem _ (List.mem_append_right _ (List.mem_append_right _ (List.mem_append_right _ h))))) qfX5_meanWorth)
set_option maxHeartbeats 2000000 in
set_option maxRecDepth 100000 in
theorem kfX5_worthiestQuestion (l : Launch) (dC : Nat → ClassId) (dI : Nat → Nat → Nat) (a0 : Nat) (a1 : Nat) (up : Nat → Nat) (kp : Nat → ClassId) (un : Nat → Nat) (kn : Nat → ClassId) (p_p : TX6_p) (n_n : TX4_n) (sz : Nat) (out : Int32) (h : f_X5_worthiestQuestion p_p n_n = some out) : KDi l yX5_worthiestQuestion vfX5_worthiestQuestion ({ frames := 5, cells := 0, slots := 0, locals := 120 }) (dC, dI) [.ref a0, .ref a1] sz (bX6 a0 up kp p_p (bX4 a1 un kn n_n [])) (tX6 kp (tX4 kn ([]))) (fun (r : Int32) _ => r = out) 0 0 := by
  refine Met.ofW (cc := cX5_worthiestQuestion) (maxL := 8) (ret := (some .int)) (by decide) rfl ?_
  intro p e s m args below meth c s₁ B0 hml hv
  obtain ⟨rfl, hsz, hP, hK, hD0, hN⟩ := hv
  have hx := B0.exec
  have hb := B0.bytes
  have hr := B0.returns
  have hts := atoms_spec (ws := vfX5_worthiestQuestion) B0.pre
  have hown : s.vm.findClass RX5 = some m.cls := findClass_of_methodNamed B0.named
  have hlocks := B0.notSynchronized
  subst hsz
  have hD := hD0.self (sz := s.heap.size)
  generalize hAe : va_A (bX6 a0 up kp p_p (bX4 a1 un kn n_n [])) s.heap.size = A at hD ⊢
  have hA : ∀ q : Nat, s.heap.size ≤ q → A q := fun q h => by rw [← hAe]; exact Or.inr h
  have hS : va_S A s.heap s.heap [] := va_S.rf
  have hP : va_P (dC, dI) vwCl (bX6 a0 up kp p_p (bX4 a1 un kn n_n [])) s.heap := hP
  have hl := lv_entry ([.ref a0, .ref a1]) (n := 8) (Nat.le_of_ble_eq_true rfl)
  rw [lg_entry_eq]
  generalize (lg_sl ([.ref a0, .ref a1]) ++ List.replicate (8 - (lg_sl ([.ref a0, .ref a1])).length) Slot.unset).toArray = ls at hl ⊢
  have hl : lv_has ls 8 [(0, .ref a0), (1, .ref a1)] := hl
  refine W_q (fun QQ hQQ => ?_)
  rw [f_X5_worthiestQuestion] at h
  refine lv_bipush (v := (-2)) hx hb (zat zrX5_worthiestQuestion_0_ok 0 rfl) (by decide) ?_
  refine lv_istore_n (lv' := [(2, .int (-2)), (0, .ref a0), (1, .ref a1)]) hx hb (zat zrX5_worthiestQuestion_0_ok 1 rfl) rfl hl (by decide) rfl (fun ls hl => ?_)
  refine lv_lconst (v := 0) hx hb (zat zrX5_worthiestQuestion_0_ok 2 rfl) (by decide) ?_
  refine lv_lstore_n (lv' := [(3, .long 0), (2, .int (-2)), (0, .ref a0), (1, .ref a1)]) hx hb (zat zrX5_worthiestQuestion_0_ok 3 rfl) rfl hl (by decide) rfl (fun ls hl => ?_)
  refine lv_iconst (v := 0) hx hb (zat zrX5_worthiestQuestion_0_ok 4 rfl) (by decide) ?_
  refine lv_istore (lv' := [(5, .int 0), (3, .long 0), (2, .int (-2)), (0, .ref a0), (1, .ref a1)]) hx hb (zat zrX5_worthiestQuestion_0_ok 5 rfl) hl (by decide) rfl (fun ls hl => ?_)
  have L8 : ∀ (n8 : Nat) (v8_l5 : Int32) (v8_l3 : Int64) (v8_l2 : Int32) (H : Heap) (locs : List Loc) (ls : Array Slot), f_X5_worthiestQuestion_L8 p_p n_n n8 v8_l5 v8_l3 v8_l2 = some out → va_P (dC, dI) vwCl (bX6 a0 up kp p_p (bX4 a1 un kn n_n [])) H → va_D A (bX6 a0 up kp p_p (bX4 a1 un kn n_n [])) → va_S A s.heap H locs → lv_has ls 8 [(5, .int v8_l5), (3, .long v8_l3), (2, .int v8_l2), (0, .ref a0), (1, .ref a1)] → W p l e (headSpec vfX5_worthiestQuestion { frames := 5, cells := 0, slots := 0, locals := 120 }).room s m ([.ref a0, .ref a1]).toArray below meth c H locs 0 0 QQ (F0 m 8 ls []) := by
    intro n8
    induction n8 with
    | zero =>
      intro v8_l5 v8_l3 v8_l2 H locs ls h  _ _ _ _
      rw [f_X5_worthiestQuestion_L8] at h
      cases h
    | succ n8 ih8 =>
      intro v8_l5 v8_l3 v8_l2 H locs ls h  hP hD hS hl
      rw [f_X5_worthiestQuestion_L8] at h
      refine lv_iload hx hb (zat zrX5_worthiestQuestion_0_ok 6 rfl) (lv_at hl 0 rfl) ?_
      refine lv_aload_n hx hb (zat zrX5_worthiestQuestion_0_ok 7 rfl) rfl (lv_at hl 3 rfl) ?_
      obtain ⟨o11, eo11⟩ : ∃ o, o = f_X6_questionBound p_p := ⟨_, rfl⟩
      have h := nm_of h o11 eo11
      refine ck_i (wc := (bX6 a0 up kp p_p [])) (wr := (bX4 a1 un kn n_n [])) hP hD hK hS hA [0, 1, 2, 3, 4, 5, 6, 7, 8, 9] [10, 11, 12, 13, 14] rfl rfl (by decide) (by decide) (by decide) (fun hPc hDc => (va_runV (As := []) (rest := [.int v8_l5]) ⟨hx, hb, hml, hown, hts⟩ (kfX6_questionBound l dC dI a0 up kp p_p H.size o11 eo11.symm) (cwV 0 hts gfX5_worthiestQuestion_0 rfl rfl rfl (by decide +kernel) ⟨(Nat.le_of_ble_eq_true rfl), (Nat.le_of_ble_eq_true rfl)⟩) (PV hPc (hK.sub (tys' := (tX6 kp ([]))) [0, 1, 2, 3, 4, 5, 6, 7, 8] rfl) hDc hN 0 rfl rfl) rfl rfl hl.1 rfl (lv_room (Nat.le_of_ble_eq_true rfl)) (zat zrX5_worthiestQuestion_0_ok 8 rfl) ⟨(Nat.le_of_ble_eq_true rfl), (Nat.le_of_ble_eq_true rfl)⟩)) (fun r11 _ H locs hw hP hD _ hS => ?_)
      obtain rfl := hw.symm
      obtain ⟨hP, hD⟩ := pd_mk (bX4 a1 un kn n_n (bX6 a0 up kp p_p [])) hP hD
      refine lv_icmp_ge (tgt := 58) hx hb (zat zrX5_worthiestQuestion_0_ok 9 rfl) (by decide) (fun c14 => ?_) (fun c14 => ?_)
      · have h := (if_pos c14).symm.trans h
        refine lv_iload_n hx hb (zat zrX5_worthiestQuestion_0_ok 31 rfl) rfl (lv_at hl 2 rfl) ?_
        obtain rfl := Option.some.inj h
        obtain ⟨hP9, hD9⟩ := pd_sub (bX6 a0 up kp p_p (bX4 a1 un kn n_n [])) [5, 6, 7, 8, 9, 10, 11, 12, 13, 14, 0, 1, 2, 3, 4] hP hD (by decide) rfl
        have hK9 := hK.sub (tys' := []) [] rfl
        rw [hQQ]
        exact W.iret (v := v8_l2) hx hb hr (fun t ht hW => ⟨⟨v8_l2, (), rfl, rfl, by rw [ht]; exact hP9, va_K.moved hW.alike hK9, hD9⟩, hS.F ht⟩) hS.2.2 (zat zrX5_worthiestQuestion_0_ok 32 rfl)
      · have h := (if_neg c14).symm.trans h
        refine lv_aload_n hx hb (zat zrX5_worthiestQuestion_0_ok 10 rfl) rfl (lv_at hl 3 rfl) ?_
        refine lv_iload hx hb (zat zrX5_worthiestQuestion_0_ok 11 rfl) (lv_at hl 0 rfl) ?_
        obtain ⟨o20, eo20⟩ : ∃ o, o = f_X6_hasQuestion v8_l5 p_p := ⟨_, rfl⟩
        have h := nm_of h o20 eo20
        refine ck_i (wc := (bX6 a0 up kp p_p [])) (wr := (bX4 a1 un kn n_n [])) hP hD hK hS hA [5, 6, 7, 8, 9, 10, 11, 12, 13, 14] [0, 1, 2, 3, 4] rfl rfl (by decide) (by decide) (by decide) (fun hPc hDc => (va_runV (As := [.int v8_l5]) (rest := []) ⟨hx, hb, hml, hown, hts⟩ (kfX6_hasQuestion l dC dI a0 v8_l5 up kp p_p H.size o20 eo20.symm) (cwV 1 hts gfX5_worthiestQuestion_1 rfl rfl rfl (by decide +kernel) ⟨(Nat.le_of_ble_eq_true rfl), (Nat.le_of_ble_eq_true rfl)⟩) (PV hPc (hK.sub (tys' := (tX6 kp ([]))) [0, 1, 2, 3, 4, 5, 6, 7, 8] rfl) hDc hN 0 rfl rfl) rfl rfl hl.1 rfl (lv_room (Nat.le_of_ble_eq_true rfl)) (zat zrX5_worthiestQuestion_0_ok 12 rfl) ⟨(Nat.le_of_ble_eq_true rfl), (Nat.le_of_ble_eq_true rfl)⟩)) (fun r20 _ H locs hw hP hD _ hS => ?_)
        obtain ⟨hw, br20⟩ := hw
        obtain rfl := hw.symm
        obtain ⟨hP, hD⟩ := pd_mk (bX4 a1 un kn n_n (bX6 a0 up kp p_p [])) hP hD
        have J37 : ∀ (v37_t0 : Int64) (H : Heap) (locs : List Loc) (ls : Array Slot), f_X5_worthiestQuestion_J37 (f_X5_worthiestQuestion_L8 p_p n_n n8) v8_l2 v8_l3 v8_l5 v37_t0 = some out → va_P (dC, dI) vwCl (bX4 a1 un kn n_n (bX6 a0 up kp p_p [])) H → va_D A (bX4 a1 un kn n_n (bX6 a0 up kp p_p [])) → va_S A s.heap H locs → lv_has ls 8 [(5, .int v8_l5), (3, .long v8_l3), (2, .int v8_l2), (0, .ref a0), (1, .ref a1)] → W p l e (headSpec vfX5_worthiestQuestion { frames := 5, cells := 0, slots := 0, locals := 120 }).room s m ([.ref a0, .ref a1]).toArray below meth c H locs 0 0 QQ (F0 m 37 ls [.long v37_t0]) := by
          intro v37_t0 H locs ls h  hP hD hS hl
          rw [f_X5_worthiestQuestion_J37] at h
          refine lv_lstore (lv' := [(6, .long v37_t0), (5, .int v8_l5), (3, .long v8_l3), (2, .int v8_l2), (0, .ref a0), (1, .ref a1)]) hx hb (zat zrX5_worthiestQuestion_0_ok 20 rfl) hl (by decide) rfl (fun ls hl => ?_)
          refine lv_lload hx hb (zat zrX5_worthiestQuestion_0_ok 21 rfl) (lv_at hl 0 rfl) ?_
          refine lv_lload_n hx hb (zat zrX5_worthiestQuestion_0_ok 22 rfl) rfl (lv_at hl 2 rfl) ?_
          refine W.lcmp hx hb (zat zrX5_worthiestQuestion_0_ok 23 rfl) ?_
          have J52 : ∀ (v52_l3 : Int64) (v52_l2 : Int32) (H : Heap) (locs : List Loc) (ls : Array Slot), f_X5_worthiestQuestion_J52 (f_X5_worthiestQuestion_L8 p_p n_n n8) v8_l5 v52_l3 v52_l2 = some out → va_P (dC, dI) vwCl (bX4 a1 un kn n_n (bX6 a0 up kp p_p [])) H → va_D A (bX4 a1 un kn n_n (bX6 a0 up kp p_p [])) → va_S A s.heap H locs → lv_has ls 8 [(5, .int v8_l5), (3, .long v52_l3), (2, .int v52_l2), (0, .ref a0), (1, .ref a1)] → W p l e (headSpec vfX5_worthiestQuestion { frames := 5, cells := 0, slots := 0, locals := 120 }).room s m ([.ref a0, .ref a1]).toArray below meth c H locs 0 0 QQ (F0 m 52 ls []) := by
            intro v52_l3 v52_l2 H locs ls h  hP hD hS hl
            rw [f_X5_worthiestQuestion_J52] at h
            refine lv_iinc (v := (v8_l5 + (1 : Int32))) (lv' := [(5, .int (v8_l5 + (1 : Int32))), (3, .long v52_l3), (2, .int v52_l2), (0, .ref a0), (1, .ref a1)]) hx hb (zat zrX5_worthiestQuestion_0_ok 29 rfl) hl (k := 0) rfl rfl (by decide) rfl (fun ls hl => ?_)
            refine lv_goto (tgt := 8) hx hb (zat zrX5_worthiestQuestion_0_ok 30 rfl) (by decide) ?_
            exact ih8 (v8_l5 + (1 : Int32)) v52_l3 v52_l2 H _ ls h  (hP.sub (ws' := (bX6 a0 up kp p_p (bX4 a1 un kn n_n []))) [5, 6, 7, 8, 9, 10, 11, 12, 13, 14, 0, 1, 2, 3, 4] rfl) (hD.sub (ws' := (bX6 a0 up kp p_p (bX4 a1 un kn n_n []))) [5, 6, 7, 8, 9, 10, 11, 12, 13, 14, 0, 1, 2, 3, 4] (by decide) rfl) hS (lv_sub hl [0, 1, 2, 3, 4] rfl)
          refine lv_if_le (tgt := 52) hx hb (zat zrX5_worthiestQuestion_0_ok 24 rfl) (by decide) (fun c43 => ?_) (fun c43 => ?_)
          · have h := (if_pos c43).symm.trans h
            exact J52 v8_l3 v8_l2 H _ ls h  hP hD hS (lv_sub hl [1, 2, 3, 4, 5] rfl)
          · have h := (if_neg c43).symm.trans h
            refine lv_lload hx hb (zat zrX5_worthiestQuestion_0_ok 25 rfl) (lv_at hl 0 rfl) ?_
            refine lv_lstore_n (lv' := [(3, .long v37_t0), (6, .long v37_t0), (5, .int v8_l5), (2, .int v8_l2), (0, .ref a0), (1, .ref a1)]) hx hb (zat zrX5_worthiestQuestion_0_ok 26 rfl) rfl hl (by decide) rfl (fun ls hl => ?_)
            refine lv_iload hx hb (zat zrX5_worthiestQuestion_0_ok 27 rfl) (lv_at hl 2 rfl) ?_
            refine lv_istore_n (lv' := [(2, .int v8_l5), (3, .long v37_t0), (6, .long v37_t0), (5, .int v8_l5), (0, .ref a0), (1, .ref a1)]) hx hb (zat zrX5_worthiestQuestion_0_ok 28 rfl) rfl hl (by decide) rfl (fun ls hl => ?_)
            exact J52 v37_t0 v8_l5 H _ ls h  hP hD hS (lv_sub hl [3, 1, 0, 4, 5] rfl)
        refine lv_if_eq (tgt := 36) hx hb (zat zrX5_worthiestQuestion_0_ok 13 rfl) (by decide) (fun c23 => ?_) (fun c23 => ?_)
        · have h := (if_pos c23).symm.trans h
          refine lv_lconst (v := 0) hx hb (zat zrX5_worthiestQuestion_0_ok 19 rfl) (by decide) ?_
          exact J37 (0 : Int64) H _ ls h  hP hD hS (lv_sub hl [0, 1, 2, 3, 4] rfl)
        · have h := (if_neg c23).symm.trans h
          refine lv_aload_n hx hb (zat zrX5_worthiestQuestion_0_ok 14 rfl) rfl (lv_at hl 3 rfl) ?_
          refine lv_aload_n hx hb (zat zrX5_worthiestQuestion_0_ok 15 rfl) rfl (lv_at hl 4 rfl) ?_
          refine lv_iload hx hb (zat zrX5_worthiestQuestion_0_ok 16 rfl) (lv_at hl 0 rfl) ?_
          obtain ⟨o30, eo30, h⟩ := bd_of h
          refine ck_l (wc := (bX6 a0 up kp p_p (bX4 a1 un kn n_n []))) (wr := []) hP hD hK hS hA [5, 6, 7, 8, 9, 10, 11, 12, 13, 14, 0, 1, 2, 3, 4] [] rfl rfl (by decide) (by decide) (by decide) (fun hPc hDc => (va_runS (As := [.ref a0, .ref a1, .int v8_l5]) (rest := []) ⟨hx, hb, hml, hown, hts⟩ (kfX5_meanWorth l dC dI a0 a1 v8_l5 up kp un kn p_p n_n H.size o30 eo30) (va_cwS 3 hts gfX5_worthiestQuestion_2 rfl rfl rfl (by decide +kernel) ⟨(Nat.le_of_ble_eq_true rfl), (Nat.le_of_ble_eq_true rfl)⟩) (PS hPc (hK.sub (tys' := (tX6 kp (tX4 kn ([])))) [0, 1, 2, 3, 4, 5, 6, 7, 8, 9, 10, 11, 12] rfl) hDc hN) rfl rfl hl.1 rfl (lv_room (Nat.le_of_ble_eq_true rfl)) (zat zrX5_worthiestQuestion_0_ok 17 rfl) ⟨(Nat.le_of_ble_eq_true rfl), (Nat.le_of_ble_eq_true rfl)⟩)) (fun r30 _ H locs hw hP hD _ hS => ?_)
          obtain rfl := hw.symm
          obtain ⟨hP, hD⟩ := pd_mk (bX6 a0 up kp p_p (bX4 a1 un kn n_n [])) hP hD
          refine lv_goto (tgt := 37) hx hb (zat zrX5_worthiestQuestion_0_ok 18 rfl) (by decide) ?_
          exact J37 o30 H _ ls h  (hP.sub (ws' := (bX4 a1 un kn n_n (bX6 a0 up kp p_p []))) [10, 11, 12, 13, 14, 0, 1, 2, 3, 4, 5, 6, 7, 8, 9] rfl) (hD.sub (ws' := (bX4 a1 un kn n_n (bX6 a0 up kp p_p []))) [10, 11, 12, 13, 14, 0, 1, 2, 3, 4, 5, 6, 7, 8, 9] (by decide) rfl) hS (lv_sub hl [0, 1, 2, 3, 4] rfl)
  exact L8 FU (0 : Int32) (0 : Int64) (-2 : Int32) s.heap _ ls h  hP hD hS (lv_sub hl [0, 1, 2, 3, 4] rfl)
noncomputable def zrX10_best_0 : List ZR := zc 0 true (.aload_n 0) 1 (zc 1 true (.aload_n 0) 1 (zc 2 true (.invokevirtual 216) 3 (zc 5 true (.invokevirtual 79) 3 (zc 8 true (.ifCond .eq 5) 3 (zc 11 true (.iconst (-1)) 1 (zc 12 true (.ireturn) 1 (zc 13 true (.aload_n 0) 1 (zc 14 true (.getfield 10) 3 (zc 17 true (.aload_n 0) 1 (zc 18 true (.getfield 29) 3 (zc 21 true (.invokestatic 220) 3 (zc 24 true (.ireturn) 1 ([])))))))))))))
theorem zrX10_best_0_ok : zck 0 ((zby cX10_best).drop 0) zrX10_best_0 = true := by decide +kernel
def vfX10_best : List Cond := List.cons (.code yX10_best cX10_best 1 (some .int)) (apW [.methodLink RX10 216 yX10_pierTrouble, .instanceMethod yX10_pierTrouble, .selects RX10 yX10_pierTrouble yX10_pierTrouble, .initialized RX10, .methodLink RX10 79 yX10_refused, .instanceMethod yX10_refused, .selects RX10 yX10_refused yX10_refused, .fieldLink RX10 10 "HookPier" "plan" "LHookPier$Plan;", .fieldLink RX10 29 "HookPier" "now" "LHookPier$Now;", .methodLink RX10 220 yX5_worthiestQuestion, .static yX5_worthiestQuestion, .initialized RX5] (apW wsX100 (apW vfX10_pierTrouble (apW vfX10_refused (vfX5_worthiestQuestion)))))
theorem ifX10_best_X10 : ∀ w ∈ wsX100, w ∈ vfX10_best := fun _ h => (List.mem_cons_of_mem _ (List.mem_append_right _ (List.mem_append_left _ h)))
theorem qfX10_best : Good vfX10_best := gd_cons (by decide +kernel) (gd_app (gd_dec (by decide +kernel) : Good [.methodLink RX10 216 yX10_pierTrouble, .instanceMethod yX10_pierTrouble, .selects RX10 yX10_pierTrouble yX10_pierTrouble, .initialized RX10, .methodLink RX10 79 yX10_refused, .instanceMethod yX10_refused, .selects RX10 yX10_refused yX10_refused, .fieldLink RX10 10 "HookPier" "plan" "LHookPier$Plan;", .fieldLink RX10 29 "HookPier" "now" "LHookPier$Now;", .methodLink RX10 220 yX5_worthiestQuestion, .static yX5_worthiestQuestion, .initialized RX5]) (gd_app qsX10 (gd_app qfX10_pierTrouble (gd_app qfX10_refused qfX5_worthiestQuestion))))
theorem gfX10_best_0 : GoodIn vfX10_best (wsV RX10 216 RX10 yX10_pierTrouble vfX10_pierTrouble) := goodIn_app (goodIn_r [.methodLink RX10 216 yX10_pierTrouble, .instanceMethod yX10_pierTrouble, .selects RX10 yX10_pierTrouble yX10_pierTrouble, .initialized RX10] [1, 2, 3, 4] rfl (by decide +kernel)) (goodIn_m (fun _ h => (List.mem_cons_of_mem _ (List.mem_append_right _ (List.mem_append_right _ (List.mem_append_left _ h))))) qfX10_pierTrouble)
theorem gfX10_best_1 : GoodIn vfX10_best (wsV RX10 79 RX10 yX10_refused vfX10_refused) := goodIn_app (goodIn_r [.methodLink RX10 79 yX10_refused, .instanceMethod yX10_refused, .selects RX10 yX10_refused yX10_refused, .initialized RX10] [5, 6, 7, 4] rfl (by decide +kernel)) (goodIn_m (fun _ h => (List.mem_cons_of_mem _ (List.mem_append_right _ (List.mem_append_right _ (List.mem_append_right _ (List.mem_append_left _ h)))))) qfX10_refused)
theorem gfX10_best_2 : GoodIn vfX10_best (va_wsS RX10 220 yX5_worthiestQuestion vfX5_worthiestQuestion) := goodIn_app (goodIn_r [.methodLink RX10 220 yX5_worthiestQuestion, .static yX5_worthiestQuestion, .initialized RX5] [10, 11, 12] rfl (by decide +kernel)) (goodIn_m (fun _ h => (List.mem_cons_of_mem _ (List.mem_append_right _ (List.mem_append_right _ (List.mem_append_right _ (List.mem_append_right _ h)))))) qfX5_worthiestQuestion)
set_option maxHeartbeats 2000000 in
set_option maxRecDepth 100000 in
theorem kfX10_best (l : Launch) (dC : Nat → ClassId) (dI : Nat → Nat → Nat) (a0 : Nat) (a1 : Nat) (a2 : Nat) (up : Nat → Nat) (kp : Nat → ClassId) (un : Nat → Nat) (kn : Nat → ClassId) (x_x : TX10_x) (g8 : Value) (g9 : Value) (g10 : Value) (g11 : Value) (g12 : Value) (g13 : Value) (p_p : TX6_p) (n_n : TX4_n) (sz : Nat) (out : (Int32 × TX10_x)) (h : f_X10_best x_x p_p n_n = some out) : KCi l yX10_best vfX10_best ({ frames := 6, cells := 0, slots := 0, locals := 147 }) (dC, dI) [.ref a0] sz ((a0, .inr (7, [.ref a1, g8, g9, .ref a2, g10, g11, g12, g13, .int x_x.1, .int x_x.2])) :: bX6 a1 up kp p_p (bX4 a2 un kn n_n [])) (tX6 kp (tX4 kn ([]))) (fun (r : Int32) _ => r = out.1) ((a0, .inr (7, [.ref a1, g8, g9, .ref a2, g10, g11, g12, g13, .int out.2.1, .int out.2.2])) :: bX6 a1 up kp p_p (bX4 a2 un kn n_n [])) 0 0 := by
  refine Met.ofW (cc := cX10_best) (maxL := 1) (ret := (some .int)) (by decide) rfl ?_
  intro p e s m args below meth c s₁ B0 hml hv
  obtain ⟨rfl, hsz, hP, hK, hD0, hN⟩ := hv
  have hx := B0.exec
  have hb := B0.bytes
  have hr := B0.returns
  have hts := atoms_spec (ws := vfX10_best) B0.pre
  have hown : s.vm.findClass RX10 = some m.cls := findClass_of_methodNamed B0.named
  have hlocks := B0.notSynchronized
  subst hsz
  have hD := hD0.self (sz := s.heap.size)
  generalize hAe : va_A ((a0, .inr (7, [.ref a1, g8, g9, .ref a2, g10, g11, g12, g13, .int x_x.1, .int x_x.2])) :: bX6 a1 up kp p_p (bX4 a2 un kn n_n [])) s.heap.size = A at hD ⊢
  have hA : ∀ q : Nat, s.heap.size ≤ q → A q := fun q h => by rw [← hAe]; exact Or.inr h
  have hS : va_S A s.heap s.heap [] := va_S.rf
  have hP : va_P (dC, dI) vwCl ((a0, .inr (7, [.ref a1, g8, g9, .ref a2, g10, g11, g12, g13, .int x_x.1, .int x_x.2])) :: bX6 a1 up kp p_p (bX4 a2 un kn n_n [])) s.heap := hP
  have hl := lv_entry ([.ref a0]) (n := 1) (Nat.le_of_ble_eq_true rfl)
  rw [lg_entry_eq]
  generalize (lg_sl ([.ref a0]) ++ List.replicate (1 - (lg_sl ([.ref a0])).length) Slot.unset).toArray = ls at hl ⊢
  have hl : lv_has ls 1 [(0, .ref a0)] := hl
  refine W_q (fun QQ hQQ => ?_)
  rw [f_X10_best] at h
  refine lv_aload_n hx hb (zat zrX10_best_0_ok 0 rfl) rfl (lv_at hl 0 rfl) ?_
  refine lv_aload_n hx hb (zat zrX10_best_0_ok 1 rfl) rfl (lv_at hl 0 rfl) ?_
  obtain ⟨o2, eo2⟩ : ∃ o, o = f_X10_pierTrouble p_p := ⟨_, rfl⟩
  have h := nm_of h o2 eo2
  refine ck_i (wc := ((a0, .inr (7, [.ref a1, g8, g9, .ref a2, g10, g11, g12, g13, .int x_x.1, .int x_x.2])) :: bX6 a1 up kp p_p [])) (wr := (bX4 a2 un kn n_n [])) hP hD hK hS hA [0, 1, 2, 3, 4, 5, 6, 7, 8, 9, 10] [11, 12, 13, 14, 15] rfl rfl (by decide) (by decide) (by decide) (fun hPc hDc => (va_runV (As := []) (rest := [.ref a0]) ⟨hx, hb, hml, hown, hts⟩ (kfX10_pierTrouble l dC dI a0 a1 up kp (g8) (g9) (.ref a2) (g10) (g11) (g12) (g13) (.int x_x.1) (.int x_x.2) p_p s.heap.size o2 eo2.symm) (cwV 0 hts gfX10_best_0 rfl rfl rfl (by decide +kernel) ⟨(Nat.le_of_ble_eq_true rfl), (Nat.le_of_ble_eq_true rfl)⟩) (PV hPc (hK.sub (tys' := (tX6 kp ([]))) [0, 1, 2, 3, 4, 5, 6, 7, 8] rfl) hDc hN 0 rfl rfl) rfl rfl hl.1 rfl (lv_room (Nat.le_of_ble_eq_true rfl)) (zat zrX10_best_0_ok 2 rfl) ⟨(Nat.le_of_ble_eq_true rfl), (Nat.le_of_ble_eq_true rfl)⟩)) (fun r2 _ H locs hw hP hD _ hS => ?_)
  obtain rfl := hw.symm
  obtain ⟨hP, hD⟩ := pd_mk (bX4 a2 un kn n_n ((a0, .inr (7, [.ref a1, g8, g9, .ref a2, g10, g11, g12, g13, .int x_x.1, .int x_x.2])) :: bX6 a1 up kp p_p [])) hP hD
  obtain ⟨o5, eo5⟩ : ∃ o, o = f_X10_refused o2 x_x := ⟨_, rfl⟩
  have h := nm_of h o5 eo5
  refine ck_i (wc := ([(a0, .inr (7, [.ref a1, g8, g9, .ref a2, g10, g11, g12, g13, .int x_x.1, .int x_x.2]))])) (wr := (bX4 a2 un kn n_n (bX6 a1 up kp p_p []))) hP hD hK hS hA [5] [0, 1, 2, 3, 4, 6, 7, 8, 9, 10, 11, 12, 13, 14, 15] rfl rfl (by decide) (by decide) (by decide) (fun hPc hDc => (va_runV (As := [.int o2]) (rest := []) ⟨hx, hb, hml, hown, hts⟩ (kfX10_refused l dC dI a0 o2 x_x (.ref a1) (g8) (g9) (.ref a2) (g10) (g11) (g12) (g13) H.size o5 eo5.symm) (cwV 1 hts gfX10_best_1 rfl rfl rfl (by decide +kernel) ⟨(Nat.le_of_ble_eq_true rfl), (Nat.le_of_ble_eq_true rfl)⟩) (PV hPc (hK.sub (tys' := ([])) [] rfl) hDc hN 0 rfl rfl) rfl rfl hl.1 rfl (lv_room (Nat.le_of_ble_eq_true rfl)) (zat zrX10_best_0_ok 3 rfl) ⟨(Nat.le_of_ble_eq_true rfl), (Nat.le_of_ble_eq_true rfl)⟩)) (fun r5 _ H locs hw hP hD _ hS => ?_)
  obtain ⟨hw, br5⟩ := hw
  obtain rfl := hw
  obtain ⟨hP, hD⟩ := pd_mk (bX4 a2 un kn n_n (bX6 a1 up kp p_p ([(a0, .inr (7, [.ref a1, g8, g9, .ref a2, g10, g11, g12, g13, .int o5.2.1, .int o5.2.2]))]))) hP hD
  refine lv_if_eq (tgt := 13) hx hb (zat zrX10_best_0_ok 4 rfl) (by decide) (fun c8 => ?_) (fun c8 => ?_)
  · have h := (if_pos c8).symm.trans h
    refine lv_aload_n hx hb (zat zrX10_best_0_ok 7 rfl) rfl (lv_at hl 0 rfl) ?_
    refine va_get (D := (dC, dI)) (ci := 7) (v := .ref a1) (C := RX10) (T := TX10) (N := 10) hx hb hts ifX10_best_X10 hown hK hP 15 rfl rfl 0 (by decide) (hts (.fieldLink RX10 10 "HookPier" "plan" "LHookPier$Plan;") (List.mem_of_getElem? (i := 8) rfl)) (fun _ h9 => h9) rfl (zat zrX10_best_0_ok 8 rfl) ?_
    refine lv_aload_n hx hb (zat zrX10_best_0_ok 9 rfl) rfl (lv_at hl 0 rfl) ?_
    refine va_get (D := (dC, dI)) (ci := 7) (v := .ref a2) (C := RX10) (T := TX10) (N := 10) hx hb hts ifX10_best_X10 hown hK hP 15 rfl rfl 3 (by decide) (hts (.fieldLink RX10 29 "HookPier" "now" "LHookPier$Now;") (List.mem_of_getElem? (i := 9) rfl)) (fun _ h9 => h9) rfl (zat zrX10_best_0_ok 10 rfl) ?_
    obtain ⟨o21, eo21, h⟩ := bd_of h
    refine ck_i (wc := (bX6 a1 up kp p_p (bX4 a2 un kn n_n []))) (wr := ([(a0, .inr (7, [.ref a1, g8, g9, .ref a2, g10, g11, g12, g13, .int o5.2.1, .int o5.2.2]))])) hP hD hK hS hA [5, 6, 7, 8, 9, 10, 11, 12, 13, 14, 0, 1, 2, 3, 4] [15] rfl rfl (by decide) (by decide) (by decide) (fun hPc hDc => (va_runS (As := [.ref a1, .ref a2]) (rest := []) ⟨hx, hb, hml, hown, hts⟩ (kfX5_worthiestQuestion l dC dI a1 a2 up kp un kn p_p n_n H.size o21 eo21) (va_cwS 2 hts gfX10_best_2 rfl rfl rfl (by decide +kernel) ⟨(Nat.le_of_ble_eq_true rfl), (Nat.le_of_ble_eq_true rfl)⟩) (PS hPc (hK.sub (tys' := (tX6 kp (tX4 kn ([])))) [0, 1, 2, 3, 4, 5, 6, 7, 8, 9, 10, 11, 12] rfl) hDc hN) rfl rfl hl.1 rfl (lv_room (Nat.le_of_ble_eq_true rfl)) (zat zrX10_best_0_ok 11 rfl) ⟨(Nat.le_of_ble_eq_true rfl), (Nat.le_of_ble_eq_true rfl)⟩)) (fun r21 _ H locs hw hP hD _ hS => ?_)
    obtain rfl := hw.symm
    obtain ⟨hP, hD⟩ := pd_mk ((a0, .inr (7, [.ref a1, g8, g9, .ref a2, g10, g11, g12, g13, .int o5.2.1, .int o5.2.2])) :: bX6 a1 up kp p_p (bX4 a2 un kn n_n [])) hP hD
    obtain rfl := Option.some.inj h
    obtain ⟨hP9, hD9⟩ := pd_sub ((a0, .inr (7, [.ref a1, g8, g9, .ref a2, g10, g11, g12, g13, .int o5.2.1, .int o5.2.2])) :: bX6 a1 up kp p_p (bX4 a2 un kn n_n [])) [0, 1, 2, 3, 4, 5, 6, 7, 8, 9, 10, 11, 12, 13, 14, 15] hP hD (by decide) rfl
    have hK9 := hK.sub (tys' := []) [] rfl
    rw [hQQ]
    exact W.iret (v := o21) hx hb hr (fun t ht hW => ⟨⟨o21, (), rfl, rfl, by rw [ht]; exact hP9, va_K.moved hW.alike hK9, hD9⟩, hS.F ht⟩) hS.2.2 (zat zrX10_best_0_ok 12 rfl)
  · have h := (if_neg c8).symm.trans h
    refine lv_iconst (v := (-1)) hx hb (zat zrX10_best_0_ok 5 rfl) (by decide) ?_
    obtain rfl := Option.some.inj h
    obtain ⟨hP9, hD9⟩ := pd_sub ((a0, .inr (7, [.ref a1, g8, g9, .ref a2, g10, g11, g12, g13, .int o5.2.1, .int o5.2.2])) :: bX6 a1 up kp p_p (bX4 a2 un kn n_n [])) [15, 5, 6, 7, 8, 9, 10, 11, 12, 13, 14, 0, 1, 2, 3, 4] hP hD (by decide) rfl
    have hK9 := hK.sub (tys' := []) [] rfl
    rw [hQQ]
    exact W.iret (v := (-1 : Int32)) hx hb hr (fun t ht hW => ⟨⟨(-1 : Int32), (), rfl, rfl, by rw [ht]; exact hP9, va_K.moved hW.alike hK9, hD9⟩, hS.F ht⟩) hS.2.2 (zat zrX10_best_0_ok 6 rfl)
noncomputable def zrX10_likers_0 : List ZR := zc 0 true (.iconst 0) 1 (zc 1 true (.istore_n 2) 1 (zc 2 true (.iconst 0) 1 (zc 3 true (.istore_n 3) 1 (zc 4 true (.iload_n 3) 1 (zc 5 true (.aload_n 0) 1 (zc 6 true (.getfield 10) 3 (zc 9 true (.getfield 96) 3 (zc 12 true (.if_icmp .ge 37) 3 (zc 15 true (.aload_n 0) 1 (zc 16 true (.getfield 29) 3 (zc 19 true (.getfield 125) 3 (zc 22 true (.iload_n 3) 1 (zc 23 true (.iaload) 1 (zc 24 true (.ifCond .ne 19) 3 (zc 27 true (.aload_n 0) 1 (zc 28 true (.getfield 10) 3 (zc 31 true (.getfield 119) 3 (zc 34 true (.iload_n 3) 1 (zc 35 true (.iaload) 1 (zc 36 true (.iload_n 1) 1 (zc 37 true (.if_icmp .ne 6) 3 (zc 40 true (.iinc 2 1) 3 (zc 43 true (.iinc 3 1) 3 (zc 46 true (.goto (-42)) 3 (zc 49 true (.iload_n 2) 1 (zc 50 true (.ireturn) 1 ([])))))))))))))))))))))))))))
theorem zrX10_likers_0_ok : zck 0 ((zby cX10_likers).drop 0) zrX10_likers_0 = true := by decide +kernel
def vfX10_likers : List Cond := List.cons (.code yX10_likers cX10_likers 4 (some .int)) (apW [.fieldLink RX10 10 "HookPier" "plan" "LHookPier$Plan;", .fieldLink RX10 96 "HookPier$Plan" "answers" "I", .fieldLink RX10 29 "HookPier" "now" "LHookPier$Now;", .fieldLink RX10 125 "HookPier$Now" "stage" "[I", .fieldLink RX10 119 "HookPier$Plan" "likes" "[I"] (apW wsX100 (apW wsX60 (wsX40))))
theorem ifX10_likers_X10 : ∀ w ∈ wsX100, w ∈ vfX10_likers := fun _ h => (List.mem_cons_of_mem _ (List.mem_append_right _ (List.mem_append_left _ h)))
theorem ifX10_likers_X6 : ∀ w ∈ wsX60, w ∈ vfX10_likers := fun _ h => (List.mem_cons_of_mem _ (List.mem_append_right _ (List.mem_append_right _ (List.mem_append_left _ h))))
theorem ifX10_likers_X4 : ∀ w ∈ wsX40, w ∈ vfX10_likers := fun _ h => (List.mem_cons_of_mem _ (List.mem_append_right _ (List.mem_append_right _ (List.mem_append_right _ h))))
theorem qfX10_likers : Good vfX10_likers := gd_cons (by decide +kernel) (gd_app (gd_dec (by decide +kernel) : Good [.fieldLink RX10 10 "HookPier" "plan" "LHookPier$Plan;", .fieldLink RX10 96 "HookPier$Plan" "answers" "I", .fieldLink RX10 29 "HookPier" "now" "LHookPier$Now;", .fieldLink RX10 125 "HookPier$Now" "stage" "[I", .fieldLink RX10 119 "HookPier$Plan" "likes" "[I"]) (gd_app qsX10 (gd_app qsX6 qsX4)))
set_option maxHeartbeats 2000000 in
set_option maxRecDepth 100000 in
theorem kfX10_likers (l : Launch) (dC : Nat → ClassId) (dI : Nat → Nat → Nat) (a0 : Nat) (k1 : Int32) (a2 : Nat) (a3 : Nat) (up : Nat → Nat) (kp : Nat → ClassId) (un : Nat → Nat) (kn : Nat → ClassId) (g8 : Value) (g9 : Value) (g10 : Value) (g11 : Value) (g12 : Value) (g13 : Value) (g14 : Value) (g15 : Value) (p_p : TX6_p) (n_n : TX4_n) (sz : Nat) (out : Int32) (h : f_X10_likers k1 p_p n_n = some out) : KDi l yX10_likers vfX10_likers ({ frames := 0, cells := 0, slots := 0, locals := 0 }) (dC, dI) [.ref a0, .int k1] sz ((a0, .inr (7, [.ref a2, g8, g9, .ref a3, g10, g11, g12, g13, g14, g15])) :: bX6 a2 up kp p_p (bX4 a3 un kn n_n [])) (tX6 kp (tX4 kn ([]))) (fun (r : Int32) _ => r = out) 0 0 := by
  refine Met.ofW (cc := cX10_likers) (maxL := 4) (ret := (some .int)) (by decide) rfl ?_
  intro p e s m args below meth c s₁ B0 hml hv
  obtain ⟨rfl, hsz, hP, hK, hD0, hN⟩ := hv
  have hx := B0.exec
  have hb := B0.bytes
  have hr := B0.returns
  have hts := atoms_spec (ws := vfX10_likers) B0.pre
  have hown : s.vm.findClass RX10 = some m.cls := findClass_of_methodNamed B0.named
  have hlocks := B0.notSynchronized
  subst hsz
  have hD := hD0.self (sz := s.heap.size)
  generalize hAe : va_A ((a0, .inr (7, [.ref a2, g8, g9, .ref a3, g10, g11, g12, g13, g14, g15])) :: bX6 a2 up kp p_p (bX4 a3 un kn n_n [])) s.heap.size = A at hD ⊢
  have hA : ∀ q : Nat, s.heap.size ≤ q → A q := fun q h => by rw [← hAe]; exact Or.inr h
  have hS : va_S A s.heap s.heap [] := va_S.rf
  have hP : va_P (dC, dI) vwCl ((a0, .inr (7, [.ref a2, g8, g9, .ref a3, g10, g11, g12, g13, g14, g15])) :: bX6 a2 up kp p_p (bX4 a3 un kn n_n [])) s.heap := hP
  have hl := lv_entry ([.ref a0, .int k1]) (n := 4) (Nat.le_of_ble_eq_true rfl)
  rw [lg_entry_eq]
  generalize (lg_sl ([.ref a0, .int k1]) ++ List.replicate (4 - (lg_sl ([.ref a0, .int k1])).length) Slot.unset).toArray = ls at hl ⊢
  have hl : lv_has ls 4 [(0, .ref a0), (1, .int k1)] := hl
  refine W_q (fun QQ hQQ => ?_)
  rw [f_X10_likers] at h
  refine lv_iconst (v := 0) hx hb (zat zrX10_likers_0_ok 0 rfl) (by decide) ?_
  refine lv_istore_n (lv' := [(2, .int 0), (0, .ref a0), (1, .int k1)]) hx hb (zat zrX10_likers_0_ok 1 rfl) rfl hl (by decide) rfl (fun ls hl => ?_)
  refine lv_iconst (v := 0) hx hb (zat zrX10_likers_0_ok 2 rfl) (by decide) ?_
  refine lv_istore_n (lv' := [(3, .int 0), (2, .int 0), (0, .ref a0), (1, .int k1)]) hx hb (zat zrX10_likers_0_ok 3 rfl) rfl hl (by decide) rfl (fun ls hl => ?_)
  have L4 : ∀ (n4 : Nat) (v4_l3 : Int32) (v4_l2 : Int32) (H : Heap) (locs : List Loc) (ls : Array Slot), f_X10_likers_L4 k1 p_p n_n n4 v4_l3 v4_l2 = some out → va_P (dC, dI) vwCl ((a0, .inr (7, [.ref a2, g8, g9, .ref a3, g10, g11, g12, g13, g14, g15])) :: bX6 a2 up kp p_p (bX4 a3 un kn n_n [])) H → va_D A ((a0, .inr (7, [.ref a2, g8, g9, .ref a3, g10, g11, g12, g13, g14, g15])) :: bX6 a2 up kp p_p (bX4 a3 un kn n_n [])) → va_S A s.heap H locs → lv_has ls 4 [(3, .int v4_l3), (2, .int v4_l2), (0, .ref a0), (1, .int k1)] → W p l e (headSpec vfX10_likers { frames := 0, cells := 0, slots := 0, locals := 0 }).room s m ([.ref a0, .int k1]).toArray below meth c H locs 0 0 QQ (F0 m 4 ls []) := by
    intro n4
    induction n4 with
    | zero =>
      intro v4_l3 v4_l2 H locs ls h  _ _ _ _
      rw [f_X10_likers_L4] at h
      cases h
    | succ n4 ih4 =>
      intro v4_l3 v4_l2 H locs ls h  hP hD hS hl
      rw [f_X10_likers_L4] at h
      refine lv_iload_n hx hb (zat zrX10_likers_0_ok 4 rfl) rfl (lv_at hl 0 rfl) ?_
      refine lv_aload_n hx hb (zat zrX10_likers_0_ok 5 rfl) rfl (lv_at hl 2 rfl) ?_
      refine va_get (D := (dC, dI)) (ci := 7) (v := .ref a2) (C := RX10) (T := TX10) (N := 10) hx hb hts ifX10_likers_X10 hown hK hP 0 rfl rfl 0 (by decide) (hts (.fieldLink RX10 10 "HookPier" "plan" "LHookPier$Plan;") (List.mem_of_getElem? (i := 1) rfl)) (fun _ h9 => h9) rfl (zat zrX10_likers_0_ok 6 rfl) ?_
      refine va_get (D := (dC, dI)) (ci := 4) (v := .int p_p.2.2.2.2.2.2.1) (C := RX6) (T := TX6) (N := 18) hx hb hts ifX10_likers_X6 hown hK hP 1 rfl rfl 6 (by decide) (hts (.fieldLink RX10 96 "HookPier$Plan" "answers" "I") (List.mem_of_getElem? (i := 2) rfl)) (fun _ h9 => h9) rfl (zat zrX10_likers_0_ok 7 rfl) ?_
      refine lv_icmp_ge (tgt := 49) hx hb (zat zrX10_likers_0_ok 8 rfl) (by decide) (fun c12 => ?_) (fun c12 => ?_)
      · have h := (if_pos c12).symm.trans h
        refine lv_iload_n hx hb (zat zrX10_likers_0_ok 25 rfl) rfl (lv_at hl 1 rfl) ?_
        obtain rfl := Option.some.inj h
        obtain ⟨hP9, hD9⟩ := pd_sub ((a0, .inr (7, [.ref a2, g8, g9, .ref a3, g10, g11, g12, g13, g14, g15])) :: bX6 a2 up kp p_p (bX4 a3 un kn n_n [])) [0, 1, 2, 3, 4, 5, 6, 7, 8, 9, 10, 11, 12, 13, 14, 15] hP hD (by decide) rfl
        have hK9 := hK.sub (tys' := []) [] rfl
        rw [hQQ]
        exact W.iret (v := v4_l2) hx hb hr (fun t ht hW => ⟨⟨v4_l2, (), rfl, rfl, by rw [ht]; exact hP9, va_K.moved hW.alike hK9, hD9⟩, hS.F ht⟩) hS.2.2 (zat zrX10_likers_0_ok 26 rfl)
      · have h := (if_neg c12).symm.trans h
        refine lv_aload_n hx hb (zat zrX10_likers_0_ok 9 rfl) rfl (lv_at hl 2 rfl) ?_
        refine va_get (D := (dC, dI)) (ci := 7) (v := .ref a3) (C := RX10) (T := TX10) (N := 10) hx hb hts ifX10_likers_X10 hown hK hP 0 rfl rfl 3 (by decide) (hts (.fieldLink RX10 29 "HookPier" "now" "LHookPier$Now;") (List.mem_of_getElem? (i := 3) rfl)) (fun _ h9 => h9) rfl (zat zrX10_likers_0_ok 10 rfl) ?_
        refine va_get (D := (dC, dI)) (ci := 3) (v := .ref (un 0)) (C := RX4) (T := TX4) (N := 7) hx hb hts ifX10_likers_X4 hown hK hP 11 rfl rfl 3 (by decide) (hts (.fieldLink RX10 125 "HookPier$Now" "stage" "[I") (List.mem_of_getElem? (i := 4) rfl)) (fun _ h9 => h9) rfl (zat zrX10_likers_0_ok 11 rfl) ?_
        refine lv_iload_n hx hb (zat zrX10_likers_0_ok 12 rfl) rfl (lv_at hl 0 rfl) ?_
        obtain ⟨hg23, h⟩ := gA_of h
        refine va_iald hx hb hK hP 12 9 rfl rfl hg23 (zat zrX10_likers_0_ok 13 rfl) ?_
        have J43 : ∀ (v43_l2 : Int32) (H : Heap) (locs : List Loc) (ls : Array Slot), f_X10_likers_J43 (f_X10_likers_L4 k1 p_p n_n n4) v4_l3 v43_l2 = some out → va_P (dC, dI) vwCl ((a0, .inr (7, [.ref a2, g8, g9, .ref a3, g10, g11, g12, g13, g14, g15])) :: bX6 a2 up kp p_p (bX4 a3 un kn n_n [])) H → va_D A ((a0, .inr (7, [.ref a2, g8, g9, .ref a3, g10, g11, g12, g13, g14, g15])) :: bX6 a2 up kp p_p (bX4 a3 un kn n_n [])) → va_S A s.heap H locs → lv_has ls 4 [(3, .int v4_l3), (2, .int v43_l2), (0, .ref a0), (1, .int k1)] → W p l e (headSpec vfX10_likers { frames := 0, cells := 0, slots := 0, locals := 0 }).room s m ([.ref a0, .int k1]).toArray below meth c H locs 0 0 QQ (F0 m 43 ls []) := by
          intro v43_l2 H locs ls h  hP hD hS hl
          rw [f_X10_likers_J43] at h
          refine lv_iinc (v := (v4_l3 + (1 : Int32))) (lv' := [(3, .int (v4_l3 + (1 : Int32))), (2, .int v43_l2), (0, .ref a0), (1, .int k1)]) hx hb (zat zrX10_likers_0_ok 23 rfl) hl (k := 0) rfl rfl (by decide) rfl (fun ls hl => ?_)
          refine lv_goto (tgt := 4) hx hb (zat zrX10_likers_0_ok 24 rfl) (by decide) ?_
          exact ih4 (v4_l3 + (1 : Int32)) v43_l2 H _ ls h  hP hD hS (lv_sub hl [0, 1, 2, 3] rfl)
        refine lv_if_ne (tgt := 43) hx hb (zat zrX10_likers_0_ok 14 rfl) (by decide) (fun c24 => ?_) (fun c24 => ?_)
        · have h := (if_neg c24).symm.trans h
          exact J43 v4_l2 H _ ls h  hP hD hS (lv_sub hl [0, 1, 2, 3] rfl)
        · have h := (if_pos c24).symm.trans h
          refine lv_aload_n hx hb (zat zrX10_likers_0_ok 15 rfl) rfl (lv_at hl 2 rfl) ?_
          refine va_get (D := (dC, dI)) (ci := 7) (v := .ref a2) (C := RX10) (T := TX10) (N := 10) hx hb hts ifX10_likers_X10 hown hK hP 0 rfl rfl 0 (by decide) (hts (.fieldLink RX10 10 "HookPier" "plan" "LHookPier$Plan;") (List.mem_of_getElem? (i := 1) rfl)) (fun _ h9 => h9) rfl (zat zrX10_likers_0_ok 16 rfl) ?_
          refine va_get (D := (dC, dI)) (ci := 4) (v := .ref (up 5)) (C := RX6) (T := TX6) (N := 18) hx hb hts ifX10_likers_X6 hown hK hP 1 rfl rfl 14 (by decide) (hts (.fieldLink RX10 119 "HookPier$Plan" "likes" "[I") (List.mem_of_getElem? (i := 5) rfl)) (fun _ h9 => h9) rfl (zat zrX10_likers_0_ok 17 rfl) ?_
          refine lv_iload_n hx hb (zat zrX10_likers_0_ok 18 rfl) rfl (lv_at hl 0 rfl) ?_
          obtain ⟨hg35, h⟩ := gA_of h
          refine va_iald hx hb hK hP 7 5 rfl rfl hg35 (zat zrX10_likers_0_ok 19 rfl) ?_
          refine lv_iload_n hx hb (zat zrX10_likers_0_ok 20 rfl) rfl (lv_at hl 3 rfl) ?_
          refine lv_icmp_ne (tgt := 43) hx hb (zat zrX10_likers_0_ok 21 rfl) (by decide) (fun c37 => ?_) (fun c37 => ?_)
          · have h := (if_neg c37).symm.trans h
            exact J43 v4_l2 H _ ls h  hP hD hS (lv_sub hl [0, 1, 2, 3] rfl)
          · have h := (if_pos c37).symm.trans h
            refine lv_iinc (v := (v4_l2 + (1 : Int32))) (lv' := [(2, .int (v4_l2 + (1 : Int32))), (3, .int v4_l3), (0, .ref a0), (1, .int k1)]) hx hb (zat zrX10_likers_0_ok 22 rfl) hl (k := 1) rfl rfl (by decide) rfl (fun ls hl => ?_)
            exact J43 (v4_l2 + (1 : Int32)) H _ ls h  hP hD hS (lv_sub hl [1, 0, 2, 3] rfl)
  exact L4 FU (0 : Int32) (0 : Int32) s.heap _ ls h  hP hD hS (lv_sub hl [0, 1, 2, 3] rfl)
noncomputable def zrX10_bestBait_0 : List ZR := zc 0 true (.aload_n 0) 1 (zc 1 true (.aload_n 0) 1 (zc 2 true (.invokevirtual 216) 3 (zc 5 true (.invokevirtual 79) 3 (zc 8 true (.ifCond .eq 5) 3 (zc 11 true (.iconst (-1)) 1 (zc 12 true (.ireturn) 1 (zc 13 true (.iconst 0) 1 (zc 14 true (.istore_n 1) 1 (zc 15 true (.iconst 1) 1 (zc 16 true (.istore_n 2) 1 (zc 17 true (.iload_n 2) 1 (zc 18 true (.aload_n 0) 1 (zc 19 true (.getfield 10) 3 (zc 22 true (.getfield 224) 3 (zc 25 true (.if_icmp .ge 24) 3 (zc 28 true (.aload_n 0) 1 (zc 29 true (.iload_n 2) 1 (zc 30 true (.invokevirtual 227) 3 (zc 33 true (.aload_n 0) 1 (zc 34 true (.iload_n 1) 1 (zc 35 true (.invokevirtual 227) 3 (zc 38 true (.if_icmp .le 5) 3 (zc 41 true (.iload_n 2) 1 (zc 42 true (.istore_n 1) 1 (zc 43 true (.iinc 2 1) 3 (zc 46 true (.goto (-29)) 3 (zc 49 true (.iload_n 1) 1 (zc 50 true (.ireturn) 1 ([])))))))))))))))))))))))))))))
theorem zrX10_bestBait_0_ok : zck 0 ((zby cX10_bestBait).drop 0) zrX10_bestBait_0 = true := by decide +kernel
def vfX10_bestBait : List Cond := List.cons (.code yX10_bestBait cX10_bestBait 3 (some .int)) (apW [.methodLink RX10 216 yX10_pierTrouble, .instanceMethod yX10_pierTrouble, .selects RX10 yX10_pierTrouble yX10_pierTrouble, .initialized RX10, .methodLink RX10 79 yX10_refused, .instanceMethod yX10_refused, .selects RX10 yX10_refused yX10_refused, .fieldLink RX10 10 "HookPier" "plan" "LHookPier$Plan;", .fieldLink RX10 224 "HookPier$Plan" "baits" "I", .methodLink RX10 227 yX10_likers, .instanceMethod yX10_likers, .selects RX10 yX10_likers yX10_likers] (apW wsX100 (apW wsX60 (apW vfX10_pierTrouble (apW vfX10_refused (vfX10_likers))))))
theorem ifX10_bestBait_X10 : ∀ w ∈ wsX100, w ∈ vfX10_bestBait := fun _ h => (List.mem_cons_of_mem _ (List.mem_append_right _ (List.mem_append_left _ h)))
theorem ifX10_bestBait_X6 : ∀ w ∈ wsX60, w ∈ vfX10_bestBait := fun _ h => (List.mem_cons_of_mem _ (List.mem_append_right _ (List.mem_append_right _ (List.mem_append_left _ h))))
theorem qfX10_bestBait : Good vfX10_bestBait := gd_cons (by decide +kernel) (gd_app (gd_dec (by decide +kernel) : Good [.methodLink RX10 216 yX10_pierTrouble, .instanceMethod yX10_pierTrouble, .selects RX10 yX10_pierTrouble yX10_pierTrouble, .initialized RX10, .methodLink RX10 79 yX10_refused, .instanceMethod yX10_refused, .selects RX10 yX10_refused yX10_refused, .fieldLink RX10 10 "HookPier" "plan" "LHookPier$Plan;", .fieldLink RX10 224 "HookPier$Plan" "baits" "I", .methodLink RX10 227 yX10_likers, .instanceMethod yX10_likers, .selects RX10 yX10_likers yX10_likers]) (gd_app qsX10 (gd_app qsX6 (gd_app qfX10_pierTrouble (gd_app qfX10_refused qfX10_likers)))))
theorem gfX10_bestBait_0 : GoodIn vfX10_bestBait (wsV RX10 216 RX10 yX10_pierTrouble vfX10_pierTrouble) := goodIn_app (goodIn_r [.methodLink RX10 216 yX10_pierTrouble, .instanceMethod yX10_pierTrouble, .selects RX10 yX10_pierTrouble yX10_pierTrouble, .initialized RX10] [1, 2, 3, 4] rfl (by decide +kernel)) (goodIn_m (fun _ h => (List.mem_cons_of_mem _ (List.mem_append_right _ (List.mem_append_right _ (List.mem_append_right _ (List.mem_append_left _ h)))))) qfX10_pierTrouble)
theorem gfX10_bestBait_1 : GoodIn vfX10_bestBait (wsV RX10 79 RX10 yX10_refused vfX10_refused) := goodIn_app (goodIn_r [.methodLink RX10 79 yX10_refused, .instanceMethod yX10_refused, .selects RX10 yX10_refused yX10_refused, .initialized RX10] [5, 6, 7, 4] rfl (by decide +kernel)) (goodIn_m (fun _ h => (List.mem_cons_of_mem _ (List.mem_append_right _ (List.mem_append_right _ (List.mem_append_right _ (List.mem_append_right _ (List.mem_append_left _ h))))))) qfX10_refused)
theorem gfX10_bestBait_2 : GoodIn vfX10_bestBait (wsV RX10 227 RX10 yX10_likers vfX10_likers) := goodIn_app (goodIn_r [.methodLink RX10 227 yX10_likers, .instanceMethod yX10_likers, .selects RX10 yX10_likers yX10_likers, .initialized RX10] [10, 11, 12, 4] rfl (by decide +kernel)) (goodIn_m (fun _ h => (List.mem_cons_of_mem _ (List.mem_append_right _ (List.mem_append_right _ (List.mem_append_right _ (List.mem_append_right _ (List.mem_append_right _ h))))))) qfX10_likers)
set_option maxHeartbeats 2000000 in
set_option maxRecDepth 100000 in
theorem kfX10_bestBait (l : Launch) (dC : Nat → ClassId) (dI : Nat → Nat → Nat) (a0 : Nat) (a1 : Nat) (a2 : Nat) (up : Nat → Nat) (kp : Nat → ClassId) (un : Nat → Nat) (kn : Nat → ClassId) (x_x : TX10_x) (g8 : Value) (g9 : Value) (g10 : Value) (g11 : Value) (g12 : Value) (g13 : Value) (p_p : TX6_p) (n_n : TX4_n) (sz : Nat) (out : (Int32 × TX10_x)) (h : f_X10_bestBait x_x p_p n_n = some out) : KCi l yX10_bestBait vfX10_bestBait ({ frames := 1, cells := 0, slots := 0, locals := 23 }) (dC, dI) [.ref a0] sz ((a0, .inr (7, [.ref a1, g8, g9, .ref a2, g10, g11, g12, g13, .int x_x.1, .int x_x.2])) :: bX6 a1 up kp p_p (bX4 a2 un kn n_n [])) (tX6 kp (tX4 kn ([]))) (fun (r : Int32) _ => r = out.1) ((a0, .inr (7, [.ref a1, g8, g9, .ref a2, g10, g11, g12, g13, .int out.2.1, .int out.2.2])) :: bX6 a1 up kp p_p (bX4 a2 un kn n_n [])) 0 0 := by
  refine Met.ofW (cc := cX10_bestBait) (maxL := 3) (ret := (some .int)) (by decide) rfl ?_
  intro p e s m args below meth c s₁ B0 hml hv
  obtain ⟨rfl, hsz, hP, hK, hD0, hN⟩ := hv
  have hx := B0.exec
  have hb := B0.bytes
  have hr := B0.returns
  have hts := atoms_spec (ws := vfX10_bestBait) B0.pre
  have hown : s.vm.findClass RX10 = some m.cls := findClass_of_methodNamed B0.named
  have hlocks := B0.notSynchronized
  subst hsz
  have hD := hD0.self (sz := s.heap.size)
  generalize hAe : va_A ((a0, .inr (7, [.ref a1, g8, g9, .ref a2, g10, g11, g12, g13, .int x_x.1, .int x_x.2])) :: bX6 a1 up kp p_p (bX4 a2 un kn n_n [])) s.heap.size = A at hD ⊢
  have hA : ∀ q : Nat, s.heap.size ≤ q → A q := fun q h => by rw [← hAe]; exact Or.inr h
  have hS : va_S A s.heap s.heap [] := va_S.rf
  have hP : va_P (dC, dI) vwCl ((a0, .inr (7, [.ref a1, g8, g9, .ref a2, g10, g11, g12, g13, .int x_x.1, .int x_x.2])) :: bX6 a1 up kp p_p (bX4 a2 un kn n_n [])) s.heap := hP
  have hl := lv_entry ([.ref a0]) (n := 3) (Nat.le_of_ble_eq_true rfl)
  rw [lg_entry_eq]
  generalize (lg_sl ([.ref a0]) ++ List.replicate (3 - (lg_sl ([.ref a0])).length) Slot.unset).toArray = ls at hl ⊢
  have hl : lv_has ls 3 [(0, .ref a0)] := hl
  refine W_q (fun QQ hQQ => ?_)
  rw [f_X10_bestBait] at h
  refine lv_aload_n hx hb (zat zrX10_bestBait_0_ok 0 rfl) rfl (lv_at hl 0 rfl) ?_
  refine lv_aload_n hx hb (zat zrX10_bestBait_0_ok 1 rfl) rfl (lv_at hl 0 rfl) ?_
  obtain ⟨o2, eo2⟩ : ∃ o, o = f_X10_pierTrouble p_p := ⟨_, rfl⟩
  have h := nm_of h o2 eo2
  refine ck_i (wc := ((a0, .inr (7, [.ref a1, g8, g9, .ref a2, g10, g11, g12, g13, .int x_x.1, .int x_x.2])) :: bX6 a1 up kp p_p [])) (wr := (bX4 a2 un kn n_n [])) hP hD hK hS hA [0, 1, 2, 3, 4, 5, 6, 7, 8, 9, 10] [11, 12, 13, 14, 15] rfl rfl (by decide) (by decide) (by decide) (fun hPc hDc => (va_runV (As := []) (rest := [.ref a0]) ⟨hx, hb, hml, hown, hts⟩ (kfX10_pierTrouble l dC dI a0 a1 up kp (g8) (g9) (.ref a2) (g10) (g11) (g12) (g13) (.int x_x.1) (.int x_x.2) p_p s.heap.size o2 eo2.symm) (cwV 0 hts gfX10_bestBait_0 rfl rfl rfl (by decide +kernel) ⟨(Nat.le_of_ble_eq_true rfl), (Nat.le_of_ble_eq_true rfl)⟩) (PV hPc (hK.sub (tys' := (tX6 kp ([]))) [0, 1, 2, 3, 4, 5, 6, 7, 8] rfl) hDc hN 0 rfl rfl) rfl rfl hl.1 rfl (lv_room (Nat.le_of_ble_eq_true rfl)) (zat zrX10_bestBait_0_ok 2 rfl) ⟨(Nat.le_of_ble_eq_true rfl), (Nat.le_of_ble_eq_true rfl)⟩)) (fun r2 _ H locs hw hP hD _ hS => ?_)
  obtain rfl := hw.symm
  obtain ⟨hP, hD⟩ := pd_mk (bX4 a2 un kn n_n ((a0, .inr (7, [.ref a1, g8, g9, .ref a2, g10, g11, g12, g13, .int x_x.1, .int x_x.2])) :: bX6 a1 up kp p_p [])) hP hD
  obtain ⟨o5, eo5⟩ : ∃ o, o = f_X10_refused o2 x_x := ⟨_, rfl⟩
  have h := nm_of h o5 eo5
  refine ck_i (wc := ([(a0, .inr (7, [.ref a1, g8, g9, .ref a2, g10, g11, g12, g13, .int x_x.1, .int x_x.2]))])) (wr := (bX4 a2 un kn n_n (bX6 a1 up kp p_p []))) hP hD hK hS hA [5] [0, 1, 2, 3, 4, 6, 7, 8, 9, 10, 11, 12, 13, 14, 15] rfl rfl (by decide) (by decide) (by decide) (fun hPc hDc => (va_runV (As := [.int o2]) (rest := []) ⟨hx, hb, hml, hown, hts⟩ (kfX10_refused l dC dI a0 o2 x_x (.ref a1) (g8) (g9) (.ref a2) (g10) (g11) (g12) (g13) H.size o5 eo5.symm) (cwV 1 hts gfX10_bestBait_1 rfl rfl rfl (by decide +kernel) ⟨(Nat.le_of_ble_eq_true rfl), (Nat.le_of_ble_eq_true rfl)⟩) (PV hPc (hK.sub (tys' := ([])) [] rfl) hDc hN 0 rfl rfl) rfl rfl hl.1 rfl (lv_room (Nat.le_of_ble_eq_true rfl)) (zat zrX10_bestBait_0_ok 3 rfl) ⟨(Nat.le_of_ble_eq_true rfl), (Nat.le_of_ble_eq_true rfl)⟩)) (fun r5 _ H locs hw hP hD _ hS => ?_)
  obtain ⟨hw, br5⟩ := hw
  obtain rfl := hw
  obtain ⟨hP, hD⟩ := pd_mk (bX4 a2 un kn n_n (bX6 a1 up kp p_p ([(a0, .inr (7, [.ref a1, g8, g9, .ref a2, g10, g11, g12, g13, .int o5.2.1, .int o5.2.2]))]))) hP hD
  refine lv_if_eq (tgt := 13) hx hb (zat zrX10_bestBait_0_ok 4 rfl) (by decide) (fun c8 => ?_) (fun c8 => ?_)
  · have h := (if_pos c8).symm.trans h
    refine lv_iconst (v := 0) hx hb (zat zrX10_bestBait_0_ok 7 rfl) (by decide) ?_
    refine lv_istore_n (lv' := [(1, .int 0), (0, .ref a0)]) hx hb (zat zrX10_bestBait_0_ok 8 rfl) rfl hl (by decide) rfl (fun ls hl => ?_)
    refine lv_iconst (v := 1) hx hb (zat zrX10_bestBait_0_ok 9 rfl) (by decide) ?_
    refine lv_istore_n (lv' := [(2, .int 1), (1, .int 0), (0, .ref a0)]) hx hb (zat zrX10_bestBait_0_ok 10 rfl) rfl hl (by decide) rfl (fun ls hl => ?_)
    have L17 : ∀ (n17 : Nat) (v17_l2 : Int32) (v17_l1 : Int32) (H : Heap) (locs : List Loc) (ls : Array Slot), f_X10_bestBait_L17 p_p n_n o5 n17 v17_l2 v17_l1 = some out → va_P (dC, dI) vwCl (bX4 a2 un kn n_n (bX6 a1 up kp p_p ([(a0, .inr (7, [.ref a1, g8, g9, .ref a2, g10, g11, g12, g13, .int o5.2.1, .int o5.2.2]))]))) H → va_D A (bX4 a2 un kn n_n (bX6 a1 up kp p_p ([(a0, .inr (7, [.ref a1, g8, g9, .ref a2, g10, g11, g12, g13, .int o5.2.1, .int o5.2.2]))]))) → va_S A s.heap H locs → lv_has ls 3 [(2, .int v17_l2), (1, .int v17_l1), (0, .ref a0)] → W p l e (headSpec vfX10_bestBait { frames := 1, cells := 0, slots := 0, locals := 23 }).room s m ([.ref a0]).toArray below meth c H locs 0 0 QQ (F0 m 17 ls []) := by
      intro n17
      induction n17 with
      | zero =>
        intro v17_l2 v17_l1 H locs ls h  _ _ _ _
        rw [f_X10_bestBait_L17] at h
        cases h
      | succ n17 ih17 =>
        intro v17_l2 v17_l1 H locs ls h  hP hD hS hl
        rw [f_X10_bestBait_L17] at h
        refine lv_iload_n hx hb (zat zrX10_bestBait_0_ok 11 rfl) rfl (lv_at hl 0 rfl) ?_
        refine lv_aload_n hx hb (zat zrX10_bestBait_0_ok 12 rfl) rfl (lv_at hl 2 rfl) ?_
        refine va_get (D := (dC, dI)) (ci := 7) (v := .ref a1) (C := RX10) (T := TX10) (N := 10) hx hb hts ifX10_bestBait_X10 hown hK hP 15 rfl rfl 0 (by decide) (hts (.fieldLink RX10 10 "HookPier" "plan" "LHookPier$Plan;") (List.mem_of_getElem? (i := 8) rfl)) (fun _ h9 => h9) rfl (zat zrX10_bestBait_0_ok 13 rfl) ?_
        refine va_get (D := (dC, dI)) (ci := 4) (v := .int p_p.2.2.2.2.1) (C := RX6) (T := TX6) (N := 18) hx hb hts ifX10_bestBait_X6 hown hK hP 5 rfl rfl 4 (by decide) (hts (.fieldLink RX10 224 "HookPier$Plan" "baits" "I") (List.mem_of_getElem? (i := 9) rfl)) (fun _ h9 => h9) rfl (zat zrX10_bestBait_0_ok 14 rfl) ?_
        refine lv_icmp_ge (tgt := 49) hx hb (zat zrX10_bestBait_0_ok 15 rfl) (by decide) (fun c25 => ?_) (fun c25 => ?_)
        · have h := (if_pos c25).symm.trans h
          refine lv_iload_n hx hb (zat zrX10_bestBait_0_ok 27 rfl) rfl (lv_at hl 1 rfl) ?_
          obtain rfl := Option.some.inj h
          obtain ⟨hP9, hD9⟩ := pd_sub ((a0, .inr (7, [.ref a1, g8, g9, .ref a2, g10, g11, g12, g13, .int o5.2.1, .int o5.2.2])) :: bX6 a1 up kp p_p (bX4 a2 un kn n_n [])) [15, 5, 6, 7, 8, 9, 10, 11, 12, 13, 14, 0, 1, 2, 3, 4] hP hD (by decide) rfl
          have hK9 := hK.sub (tys' := []) [] rfl
          rw [hQQ]
          exact W.iret (v := v17_l1) hx hb hr (fun t ht hW => ⟨⟨v17_l1, (), rfl, rfl, by rw [ht]; exact hP9, va_K.moved hW.alike hK9, hD9⟩, hS.F ht⟩) hS.2.2 (zat zrX10_bestBait_0_ok 28 rfl)
        · have h := (if_neg c25).symm.trans h
          refine lv_aload_n hx hb (zat zrX10_bestBait_0_ok 16 rfl) rfl (lv_at hl 2 rfl) ?_
          refine lv_iload_n hx hb (zat zrX10_bestBait_0_ok 17 rfl) rfl (lv_at hl 0 rfl) ?_
          obtain ⟨o30, eo30, h⟩ := bd_of h
          refine ck_i (wc := ((a0, .inr (7, [.ref a1, g8, g9, .ref a2, g10, g11, g12, g13, .int o5.2.1, .int o5.2.2])) :: bX6 a1 up kp p_p (bX4 a2 un kn n_n []))) (wr := []) hP hD hK hS hA [15, 5, 6, 7, 8, 9, 10, 11, 12, 13, 14, 0, 1, 2, 3, 4] [] rfl rfl (by decide) (by decide) (by decide) (fun hPc hDc => (va_runV (As := [.int v17_l2]) (rest := []) ⟨hx, hb, hml, hown, hts⟩ (kfX10_likers l dC dI a0 v17_l2 a1 a2 up kp un kn (g8) (g9) (g10) (g11) (g12) (g13) (.int o5.2.1) (.int o5.2.2) p_p n_n H.size o30 eo30) (cwV 1 hts gfX10_bestBait_2 rfl rfl rfl (by decide +kernel) ⟨(Nat.le_of_ble_eq_true rfl), (Nat.le_of_ble_eq_true rfl)⟩) (PV hPc (hK.sub (tys' := (tX6 kp (tX4 kn ([])))) [0, 1, 2, 3, 4, 5, 6, 7, 8, 9, 10, 11, 12] rfl) hDc hN 0 rfl rfl) rfl rfl hl.1 rfl (lv_room (Nat.le_of_ble_eq_true rfl)) (zat zrX10_bestBait_0_ok 18 rfl) ⟨(Nat.le_of_ble_eq_true rfl), (Nat.le_of_ble_eq_true rfl)⟩)) (fun r30 _ H locs hw hP hD _ hS => ?_)
          obtain rfl := hw.symm
          obtain ⟨hP, hD⟩ := pd_mk ((a0, .inr (7, [.ref a1, g8, g9, .ref a2, g10, g11, g12, g13, .int o5.2.1, .int o5.2.2])) :: bX6 a1 up kp p_p (bX4 a2 un kn n_n [])) hP hD
          refine lv_aload_n hx hb (zat zrX10_bestBait_0_ok 19 rfl) rfl (lv_at hl 2 rfl) ?_
          refine lv_iload_n hx hb (zat zrX10_bestBait_0_ok 20 rfl) rfl (lv_at hl 1 rfl) ?_
          obtain ⟨o35, eo35, h⟩ := bd_of h
          refine ck_i (wc := ((a0, .inr (7, [.ref a1, g8, g9, .ref a2, g10, g11, g12, g13, .int o5.2.1, .int o5.2.2])) :: bX6 a1 up kp p_p (bX4 a2 un kn n_n []))) (wr := []) hP hD hK hS hA [0, 1, 2, 3, 4, 5, 6, 7, 8, 9, 10, 11, 12, 13, 14, 15] [] rfl rfl (by decide) (by decide) (by decide) (fun hPc hDc => (va_runV (As := [.int v17_l1]) (rest := [.int o30]) ⟨hx, hb, hml, hown, hts⟩ (kfX10_likers l dC dI a0 v17_l1 a1 a2 up kp un kn (g8) (g9) (g10) (g11) (g12) (g13) (.int o5.2.1) (.int o5.2.2) p_p n_n H.size o35 eo35) (cwV 1 hts gfX10_bestBait_2 rfl rfl rfl (by decide +kernel) ⟨(Nat.le_of_ble_eq_true rfl), (Nat.le_of_ble_eq_true rfl)⟩) (PV hPc (hK.sub (tys' := (tX6 kp (tX4 kn ([])))) [0, 1, 2, 3, 4, 5, 6, 7, 8, 9, 10, 11, 12] rfl) hDc hN 0 rfl rfl) rfl rfl hl.1 rfl (lv_room (Nat.le_of_ble_eq_true rfl)) (zat zrX10_bestBait_0_ok 21 rfl) ⟨(Nat.le_of_ble_eq_true rfl), (Nat.le_of_ble_eq_true rfl)⟩)) (fun r35 _ H locs hw hP hD _ hS => ?_)
          obtain rfl := hw.symm
          obtain ⟨hP, hD⟩ := pd_mk ((a0, .inr (7, [.ref a1, g8, g9, .ref a2, g10, g11, g12, g13, .int o5.2.1, .int o5.2.2])) :: bX6 a1 up kp p_p (bX4 a2 un kn n_n [])) hP hD
          have J43 : ∀ (v43_l1 : Int32) (H : Heap) (locs : List Loc) (ls : Array Slot), f_X10_bestBait_J43 (f_X10_bestBait_L17 p_p n_n o5 n17) v17_l2 v43_l1 = some out → va_P (dC, dI) vwCl ((a0, .inr (7, [.ref a1, g8, g9, .ref a2, g10, g11, g12, g13, .int o5.2.1, .int o5.2.2])) :: bX6 a1 up kp p_p (bX4 a2 un kn n_n [])) H → va_D A ((a0, .inr (7, [.ref a1, g8, g9, .ref a2, g10, g11, g12, g13, .int o5.2.1, .int o5.2.2])) :: bX6 a1 up kp p_p (bX4 a2 un kn n_n [])) → va_S A s.heap H locs → lv_has ls 3 [(2, .int v17_l2), (1, .int v43_l1), (0, .ref a0)] → W p l e (headSpec vfX10_bestBait { frames := 1, cells := 0, slots := 0, locals := 23 }).room s m ([.ref a0]).toArray below meth c H locs 0 0 QQ (F0 m 43 ls []) := by
            intro v43_l1 H locs ls h  hP hD hS hl
            rw [f_X10_bestBait_J43] at h
            refine lv_iinc (v := (v17_l2 + (1 : Int32))) (lv' := [(2, .int (v17_l2 + (1 : Int32))), (1, .int v43_l1), (0, .ref a0)]) hx hb (zat zrX10_bestBait_0_ok 25 rfl) hl (k := 0) rfl rfl (by decide) rfl (fun ls hl => ?_)
            refine lv_goto (tgt := 17) hx hb (zat zrX10_bestBait_0_ok 26 rfl) (by decide) ?_
            exact ih17 (v17_l2 + (1 : Int32)) v43_l1 H _ ls h  (hP.sub (ws' := (bX4 a2 un kn n_n (bX6 a1 up kp p_p ([(a0, .inr (7, [.ref a1, g8, g9, .ref a2, g10, g11, g12, g13, .int o5.2.1, .int o5.2.2]))])))) [11, 12, 13, 14, 15, 1, 2, 3, 4, 5, 6, 7, 8, 9, 10, 0] rfl) (hD.sub (ws' := (bX4 a2 un kn n_n (bX6 a1 up kp p_p ([(a0, .inr (7, [.ref a1, g8, g9, .ref a2, g10, g11, g12, g13, .int o5.2.1, .int o5.2.2]))])))) [11, 12, 13, 14, 15, 1, 2, 3, 4, 5, 6, 7, 8, 9, 10, 0] (by decide) rfl) hS (lv_sub hl [0, 1, 2] rfl)
          refine lv_icmp_le (tgt := 43) hx hb (zat zrX10_bestBait_0_ok 22 rfl) (by decide) (fun c38 => ?_) (fun c38 => ?_)
          · have h := (if_pos c38).symm.trans h
            exact J43 v17_l1 H _ ls h  hP hD hS (lv_sub hl [0, 1, 2] rfl)
          · have h := (if_neg c38).symm.trans h
            refine lv_iload_n hx hb (zat zrX10_bestBait_0_ok 23 rfl) rfl (lv_at hl 0 rfl) ?_
            refine lv_istore_n (lv' := [(1, .int v17_l2), (2, .int v17_l2), (0, .ref a0)]) hx hb (zat zrX10_bestBait_0_ok 24 rfl) rfl hl (by decide) rfl (fun ls hl => ?_)
            exact J43 v17_l2 H _ ls h  hP hD hS (lv_sub hl [1, 0, 2] rfl)
    exact L17 FU (1 : Int32) (0 : Int32) H _ ls h  hP hD hS (lv_sub hl [0, 1, 2] rfl)
  · have h := (if_neg c8).symm.trans h
    refine lv_iconst (v := (-1)) hx hb (zat zrX10_bestBait_0_ok 5 rfl) (by decide) ?_
    obtain rfl := Option.some.inj h
    obtain ⟨hP9, hD9⟩ := pd_sub ((a0, .inr (7, [.ref a1, g8, g9, .ref a2, g10, g11, g12, g13, .int o5.2.1, .int o5.2.2])) :: bX6 a1 up kp p_p (bX4 a2 un kn n_n [])) [15, 5, 6, 7, 8, 9, 10, 11, 12, 13, 14, 0, 1, 2, 3, 4] hP hD (by decide) rfl
    have hK9 := hK.sub (tys' := []) [] rfl
    rw [hQQ]
    exact W.iret (v := (-1 : Int32)) hx hb hr (fun t ht hW => ⟨⟨(-1 : Int32), (), rfl, rfl, by rw [ht]; exact hP9, va_K.moved hW.alike hK9, hD9⟩, hS.F ht⟩) hS.2.2 (zat zrX10_bestBait_0_ok 6 rfl)
noncomputable def zrX10_hungerFor_0 : List ZR := zc 0 true (.aload_n 0) 1 (zc 1 true (.aload_n 0) 1 (zc 2 true (.iload_n 1) 1 (zc 3 true (.iload_n 2) 1 (zc 4 true (.iload_n 3) 1 (zc 5 true (.iload 4) 2 (zc 7 true (.invokevirtual 176) 3 (zc 10 true (.invokevirtual 79) 3 (zc 13 true (.ifCond .eq 5) 3 (zc 16 true (.iconst (-1)) 1 (zc 17 true (.ireturn) 1 (zc 18 true (.iload_n 2) 1 (zc 19 true (.iload_n 3) 1 (zc 20 true (.iload 4) 2 (zc 22 true (.invokestatic 180) 3 (zc 25 true (.istore 5) 2 (zc 27 true (.iconst 0) 1 (zc 28 true (.istore 6) 2 (zc 30 true (.iload 6) 2 (zc 32 true (.bipush 99) 2 (zc 34 true (.if_icmp .gt 29) 3 (zc 37 true (.aload_n 0) 1 (zc 38 true (.getfield 10) 3 (zc 41 true (.iload_n 1) 1 (zc 42 true (.iload 6) 2 (zc 44 true (.iload 5) 2 (zc 46 true (.invokevirtual 230) 3 (zc 49 true (.bipush 50) 2 (zc 51 true (.if_icmp .lt 6) 3 (zc 54 true (.iload 6) 2 (zc 56 true (.ireturn) 1 (zc 57 true (.iinc 6 1) 3 (zc 60 true (.goto (-30)) 3 (zc 63 true (.bipush (-2)) 2 (zc 65 true (.ireturn) 1 ([])))))))))))))))))))))))))))))))))))
theorem zrX10_hungerFor_0_ok : zck 0 ((zby cX10_hungerFor).drop 0) zrX10_hungerFor_0 = true := by decide +kernel
def vfX10_hungerFor : List Cond := List.cons (.code yX10_hungerFor cX10_hungerFor 7 (some .int)) (apW [.methodLink RX10 176 yX10_wishTrouble, .instanceMethod yX10_wishTrouble, .selects RX10 yX10_wishTrouble yX10_wishTrouble, .initialized RX10, .methodLink RX10 79 yX10_refused, .instanceMethod yX10_refused, .selects RX10 yX10_refused yX10_refused, .methodLink RX10 180 yX10_question, .static yX10_question, .fieldLink RX10 10 "HookPier" "plan" "LHookPier$Plan;", .methodLink RX10 230 yX6_wishBy, .instanceMethod yX6_wishBy, .selects RX6 yX6_wishBy yX6_wishBy, .initialized RX6] (apW wsX100 (apW vfX10_wishTrouble (apW vfX10_refused (apW vfX10_question (vfX6_wishBy))))))
theorem ifX10_hungerFor_X10 : ∀ w ∈ wsX100, w ∈ vfX10_hungerFor := fun _ h => (List.mem_cons_of_mem _ (List.mem_append_right _ (List.mem_append_left _ h)))
theorem qfX10_hungerFor : Good vfX10_hungerFor := gd_cons (by decide +kernel) (gd_app (gd_dec (by decide +kernel) : Good [.methodLink RX10 176 yX10_wishTrouble, .instanceMethod yX10_wishTrouble, .selects RX10 yX10_wishTrouble yX10_wishTrouble, .initialized RX10, .methodLink RX10 79 yX10_refused, .instanceMethod yX10_refused, .selects RX10 yX10_refused yX10_refused, .methodLink RX10 180 yX10_question, .static yX10_question, .fieldLink RX10 10 "HookPier" "plan" "LHookPier$Plan;", .methodLink RX10 230 yX6_wishBy, .instanceMethod yX6_wishBy, .selects RX6 yX6_wishBy yX6_wishBy, .initialized RX6]) (gd_app qsX10 (gd_app qfX10_wishTrouble (gd_app qfX10_refused (gd_app qfX10_question qfX6_wishBy)))))
theorem gfX10_hungerFor_0 : GoodIn vfX10_hungerFor (wsV RX10 176 RX10 yX10_wishTrouble vfX10_wishTrouble) := goodIn_app (goodIn_r [.methodLink RX10 176 yX10_wishTrouble, .instanceMethod yX10_wishTrouble, .selects RX10 yX10_wishTrouble yX10_wishTrouble, .initialized RX10] [1, 2, 3, 4] rfl (by decide +kernel)) (goodIn_m (fun _ h => (List.mem_cons_of_mem _ (List.mem_append_right _ (List.mem_append_right _ (List.mem_append_left _ h))))) qfX10_wishTrouble)
theorem gfX10_hungerFor_1 : GoodIn vfX10_hungerFor (wsV RX10 79 RX10 yX10_refused vfX10_refused) := goodIn_app (goodIn_r [.methodLink RX10 79 yX10_refused, .instanceMethod yX10_refused, .selects RX10 yX10_refused yX10_refused, .initialized RX10] [5, 6, 7, 4] rfl (by decide +kernel)) (goodIn_m (fun _ h => (List.mem_cons_of_mem _ (List.mem_append_right _ (List.mem_append_right _ (List.mem_append_right _ (List.mem_append_left _ h)))))) qfX10_refused)
theorem gfX10_hungerFor_2 : GoodIn vfX10_hungerFor (va_wsS RX10 180 yX10_question vfX10_question) := goodIn_app (goodIn_r [.methodLink RX10 180 yX10_question, .static yX10_question, .initialized RX10] [8, 9, 4] rfl (by decide +kernel)) (goodIn_m (fun _ h => (List.mem_cons_of_mem _ (List.mem_append_right _ (List.mem_append_right _ (List.mem_append_right _ (List.mem_append_right _ (List.mem_append_left _ h))))))) qfX10_question)
theorem gfX10_hungerFor_3 : GoodIn vfX10_hungerFor (wsV RX10 230 RX6 yX6_wishBy vfX6_wishBy) := goodIn_app (goodIn_r [.methodLink RX10 230 yX6_wishBy, .instanceMethod yX6_wishBy, .selects RX6 yX6_wishBy yX6_wishBy, .initialized RX6] [11, 12, 13, 14] rfl (by decide +kernel)) (goodIn_m (fun _ h => (List.mem_cons_of_mem _ (List.mem_append_right _ (List.mem_append_right _ (List.mem_append_right _ (List.mem_append_right _ (List.mem_append_right _ h))))))) qfX6_wishBy)
set_option maxHeartbeats 2000000 in
set_option maxRecDepth 100000 in
theorem kfX10_hungerFor (l : Launch) (dC : Nat → ClassId) (dI : Nat → Nat → Nat) (a0 : Nat) (k1 : Int32) (k2 : Int32) (k3 : Int32) (k4 : Int32) (a5 : Nat) (up : Nat → Nat) (kp : Nat → ClassId) (x_x : TX10_x) (g9 : Value) (g10 : Value) (g11 : Value) (g12 : Value) (g13 : Value) (g14 : Value) (g15 : Value) (p_p : TX6_p) (sz : Nat) (out : (Int32 × TX10_x)) (h : f_X10_hungerFor k1 k2 k3 k4 x_x p_p = some out) : KCi l yX10_hungerFor vfX10_hungerFor ({ frames := 4, cells := 0, slots := 0, locals := 91 }) (dC, dI) [.ref a0, .int k1, .int k2, .int k3, .int k4] sz ((a0, .inr (7, [.ref a5, g9, g10, g11, g12, g13, g14, g15, .int x_x.1, .int x_x.2])) :: bX6 a5 up kp p_p []) (tX6 kp ([])) (fun (r : Int32) _ => r = out.1) ((a0, .inr (7, [.ref a5, g9, g10, g11, g12, g13, g14, g15, .int out.2.1, .int out.2.2])) :: bX6 a5 up kp p_p []) 0 0 := by
  refine Met.ofW (cc := cX10_hungerFor) (maxL := 7) (ret := (some .int)) (by decide) rfl ?_
  intro p e s m args below meth c s₁ B0 hml hv
  obtain ⟨rfl, hsz, hP, hK, hD0, hN⟩ := hv
  have hx := B0.exec
  have hb := B0.bytes
  have hr := B0.returns
  have hts := atoms_spec (ws := vfX10_hungerFor) B0.pre
  have hown : s.vm.findClass RX10 = some m.cls := findClass_of_methodNamed B0.named
  have hlocks := B0.notSynchronized
  subst hsz
  have hD := hD0.self (sz := s.heap.size)
  generalize hAe : va_A ((a0, .inr (7, [.ref a5, g9, g10, g11, g12, g13, g14, g15, .int x_x.1, .int x_x.2])) :: bX6 a5 up kp p_p []) s.heap.size = A at hD ⊢
  have hA : ∀ q : Nat, s.heap.size ≤ q → A q := fun q h => by rw [← hAe]; exact Or.inr h
  have hS : va_S A s.heap s.heap [] := va_S.rf
  have hP : va_P (dC, dI) vwCl ((a0, .inr (7, [.ref a5, g9, g10, g11, g12, g13, g14, g15, .int x_x.1, .int x_x.2])) :: bX6 a5 up kp p_p []) s.heap := hP
  have hl := lv_entry ([.ref a0, .int k1, .int k2, .int k3, .int k4]) (n := 7) (Nat.le_of_ble_eq_true rfl)
  rw [lg_entry_eq]
  generalize (lg_sl ([.ref a0, .int k1, .int k2, .int k3, .int k4]) ++ List.replicate (7 - (lg_sl ([.ref a0, .int k1, .int k2, .int k3, .int k4])).length) Slot.unset).toArray = ls at hl ⊢
  have hl : lv_has ls 7 [(0, .ref a0), (1, .int k1), (2, .int k2), (3, .int k3), (4, .int k4)] := hl
  refine W_q (fun QQ hQQ => ?_)
  rw [f_X10_hungerFor] at h
  refine lv_aload_n hx hb (zat zrX10_hungerFor_0_ok 0 rfl) rfl (lv_at hl 0 rfl) ?_
  refine lv_aload_n hx hb (zat zrX10_hungerFor_0_ok 1 rfl) rfl (lv_at hl 0 rfl) ?_
  refine lv_iload_n hx hb (zat zrX10_hungerFor_0_ok 2 rfl) rfl (lv_at hl 1 rfl) ?_
  refine lv_iload_n hx hb (zat zrX10_hungerFor_0_ok 3 rfl) rfl (lv_at hl 2 rfl) ?_
  refine lv_iload_n hx hb (zat zrX10_hungerFor_0_ok 4 rfl) rfl (lv_at hl 3 rfl) ?_
  refine lv_iload hx hb (zat zrX10_hungerFor_0_ok 5 rfl) (lv_at hl 4 rfl) ?_
  obtain ⟨o7, eo7⟩ : ∃ o, o = f_X10_wishTrouble k1 k2 k3 k4 p_p := ⟨_, rfl⟩
  have h := nm_of h o7 eo7
  refine ck_i (wc := ((a0, .inr (7, [.ref a5, g9, g10, g11, g12, g13, g14, g15, .int x_x.1, .int x_x.2])) :: bX6 a5 up kp p_p [])) (wr := []) hP hD hK hS hA [0, 1, 2, 3, 4, 5, 6, 7, 8, 9, 10] [] rfl rfl (by decide) (by decide) (by decide) (fun hPc hDc => (va_runV (As := [.int k1, .int k2, .int k3, .int k4]) (rest := [.ref a0]) ⟨hx, hb, hml, hown, hts⟩ (kfX10_wishTrouble l dC dI a0 k1 k2 k3 k4 a5 up kp (g9) (g10) (g11) (g12) (g13) (g14) (g15) (.int x_x.1) (.int x_x.2) p_p s.heap.size o7 eo7.symm) (cwV 4 hts gfX10_hungerFor_0 rfl rfl rfl (by decide +kernel) ⟨(Nat.le_of_ble_eq_true rfl), (Nat.le_of_ble_eq_true rfl)⟩) (PV hPc (hK.sub (tys' := (tX6 kp ([]))) [0, 1, 2, 3, 4, 5, 6, 7, 8] rfl) hDc hN 0 rfl rfl) rfl rfl hl.1 rfl (lv_room (Nat.le_of_ble_eq_true rfl)) (zat zrX10_hungerFor_0_ok 6 rfl) ⟨(Nat.le_of_ble_eq_true rfl), (Nat.le_of_ble_eq_true rfl)⟩)) (fun r7 _ H locs hw hP hD _ hS => ?_)
  obtain rfl := hw.symm
  obtain ⟨hP, hD⟩ := pd_mk ((a0, .inr (7, [.ref a5, g9, g10, g11, g12, g13, g14, g15, .int x_x.1, .int x_x.2])) :: bX6 a5 up kp p_p []) hP hD
  obtain ⟨o10, eo10⟩ : ∃ o, o = f_X10_refused o7 x_x := ⟨_, rfl⟩
  have h := nm_of h o10 eo10
  refine ck_i (wc := ([(a0, .inr (7, [.ref a5, g9, g10, g11, g12, g13, g14, g15, .int x_x.1, .int x_x.2]))])) (wr := (bX6 a5 up kp p_p [])) hP hD hK hS hA [0] [1, 2, 3, 4, 5, 6, 7, 8, 9, 10] rfl rfl (by decide) (by decide) (by decide) (fun hPc hDc => (va_runV (As := [.int o7]) (rest := []) ⟨hx, hb, hml, hown, hts⟩ (kfX10_refused l dC dI a0 o7 x_x (.ref a5) (g9) (g10) (g11) (g12) (g13) (g14) (g15) H.size o10 eo10.symm) (cwV 1 hts gfX10_hungerFor_1 rfl rfl rfl (by decide +kernel) ⟨(Nat.le_of_ble_eq_true rfl), (Nat.le_of_ble_eq_true rfl)⟩) (PV hPc (hK.sub (tys' := ([])) [] rfl) hDc hN 0 rfl rfl) rfl rfl hl.1 rfl (lv_room (Nat.le_of_ble_eq_true rfl)) (zat zrX10_hungerFor_0_ok 7 rfl) ⟨(Nat.le_of_ble_eq_true rfl), (Nat.le_of_ble_eq_true rfl)⟩)) (fun r10 _ H locs hw hP hD _ hS => ?_)
  obtain ⟨hw, br10⟩ := hw
  obtain rfl := hw
  obtain ⟨hP, hD⟩ := pd_mk (bX6 a5 up kp p_p ([(a0, .inr (7, [.ref a5, g9, g10, g11, g12, g13, g14, g15, .int o10.2.1, .int o10.2.2]))])) hP hD
  refine lv_if_eq (tgt := 18) hx hb (zat zrX10_hungerFor_0_ok 8 rfl) (by decide) (fun c13 => ?_) (fun c13 => ?_)
  · have h := (if_pos c13).symm.trans h
    refine lv_iload_n hx hb (zat zrX10_hungerFor_0_ok 11 rfl) rfl (lv_at hl 2 rfl) ?_
    refine lv_iload_n hx hb (zat zrX10_hungerFor_0_ok 12 rfl) rfl (lv_at hl 3 rfl) ?_
    refine lv_iload hx hb (zat zrX10_hungerFor_0_ok 13 rfl) (lv_at hl 4 rfl) ?_
    obtain ⟨o22, eo22⟩ : ∃ o, o = f_X10_question k2 k3 k4 := ⟨_, rfl⟩
    have h := nm_of h o22 eo22
    refine ck_i (wc := []) (wr := (bX6 a5 up kp p_p ([(a0, .inr (7, [.ref a5, g9, g10, g11, g12, g13, g14, g15, .int o10.2.1, .int o10.2.2]))]))) hP hD hK hS hA [] [0, 1, 2, 3, 4, 5, 6, 7, 8, 9, 10] rfl rfl (by decide) (by decide) (by decide) (fun hPc hDc => (va_runS (As := [.int k2, .int k3, .int k4]) (rest := []) ⟨hx, hb, hml, hown, hts⟩ (kfX10_question l dC dI k2 k3 k4 H.size o22 eo22.symm) (va_cwS 3 hts gfX10_hungerFor_2 rfl rfl rfl (by decide +kernel) ⟨(Nat.le_of_ble_eq_true rfl), (Nat.le_of_ble_eq_true rfl)⟩) (PS hPc (hK.sub (tys' := ([])) [] rfl) hDc hN) rfl rfl hl.1 rfl (lv_room (Nat.le_of_ble_eq_true rfl)) (zat zrX10_hungerFor_0_ok 14 rfl) ⟨(Nat.le_of_ble_eq_true rfl), (Nat.le_of_ble_eq_true rfl)⟩)) (fun r22 _ H locs hw hP hD _ hS => ?_)
    obtain rfl := hw.symm
    obtain ⟨hP, hD⟩ := pd_mk (bX6 a5 up kp p_p ([(a0, .inr (7, [.ref a5, g9, g10, g11, g12, g13, g14, g15, .int o10.2.1, .int o10.2.2]))])) hP hD
    refine lv_istore (lv' := [(5, .int o22), (0, .ref a0), (1, .int k1), (2, .int k2), (3, .int k3), (4, .int k4)]) hx hb (zat zrX10_hungerFor_0_ok 15 rfl) hl (by decide) rfl (fun ls hl => ?_)
    refine lv_iconst (v := 0) hx hb (zat zrX10_hungerFor_0_ok 16 rfl) (by decide) ?_
    refine lv_istore (lv' := [(6, .int 0), (5, .int o22), (0, .ref a0), (1, .int k1), (2, .int k2), (3, .int k3), (4, .int k4)]) hx hb (zat zrX10_hungerFor_0_ok 17 rfl) hl (by decide) rfl (fun ls hl => ?_)
    have L30 : ∀ (n30 : Nat) (v30_l6 : Int32) (H : Heap) (locs : List Loc) (ls : Array Slot), f_X10_hungerFor_L30 k1 p_p o10 o22 n30 v30_l6 = some out → va_P (dC, dI) vwCl (bX6 a5 up kp p_p ([(a0, .inr (7, [.ref a5, g9, g10, g11, g12, g13, g14, g15, .int o10.2.1, .int o10.2.2]))])) H → va_D A (bX6 a5 up kp p_p ([(a0, .inr (7, [.ref a5, g9, g10, g11, g12, g13, g14, g15, .int o10.2.1, .int o10.2.2]))])) → va_S A s.heap H locs → lv_has ls 7 [(6, .int v30_l6), (5, .int o22), (0, .ref a0), (1, .int k1)] → W p l e (headSpec vfX10_hungerFor { frames := 4, cells := 0, slots := 0, locals := 91 }).room s m ([.ref a0, .int k1, .int k2, .int k3, .int k4]).toArray below meth c H locs 0 0 QQ (F0 m 30 ls []) := by
      intro n30
      induction n30 with
      | zero =>
        intro v30_l6 H locs ls h  _ _ _ _
        rw [f_X10_hungerFor_L30] at h
        cases h
      | succ n30 ih30 =>
        intro v30_l6 H locs ls h  hP hD hS hl
        rw [f_X10_hungerFor_L30] at h
        refine lv_iload hx hb (zat zrX10_hungerFor_0_ok 18 rfl) (lv_at hl 0 rfl) ?_
        refine lv_bipush (v := 99) hx hb (zat zrX10_hungerFor_0_ok 19 rfl) (by decide) ?_
        refine lv_icmp_gt (tgt := 63) hx hb (zat zrX10_hungerFor_0_ok 20 rfl) (by decide) (fun c34 => ?_) (fun c34 => ?_)
        · have h := (if_pos c34).symm.trans h
          refine lv_bipush (v := (-2)) hx hb (zat zrX10_hungerFor_0_ok 33 rfl) (by decide) ?_
          obtain rfl := Option.some.inj h
          obtain ⟨hP9, hD9⟩ := pd_sub ((a0, .inr (7, [.ref a5, g9, g10, g11, g12, g13, g14, g15, .int o10.2.1, .int o10.2.2])) :: bX6 a5 up kp p_p []) [10, 0, 1, 2, 3, 4, 5, 6, 7, 8, 9] hP hD (by decide) rfl
          have hK9 := hK.sub (tys' := []) [] rfl
          rw [hQQ]
          exact W.iret (v := (-2 : Int32)) hx hb hr (fun t ht hW => ⟨⟨(-2 : Int32), (), rfl, rfl, by rw [ht]; exact hP9, va_K.moved hW.alike hK9, hD9⟩, hS.F ht⟩) hS.2.2 (zat zrX10_hungerFor_0_ok 34 rfl)
        · have h := (if_neg c34).symm.trans h
          refine lv_aload_n hx hb (zat zrX10_hungerFor_0_ok 21 rfl) rfl (lv_at hl 2 rfl) ?_
          refine va_get (D := (dC, dI)) (ci := 7) (v := .ref a5) (C := RX10) (T := TX10) (N := 10) hx hb hts ifX10_hungerFor_X10 hown hK hP 10 rfl rfl 0 (by decide) (hts (.fieldLink RX10 10 "HookPier" "plan" "LHookPier$Plan;") (List.mem_of_getElem? (i := 10) rfl)) (fun _ h9 => h9) rfl (zat zrX10_hungerFor_0_ok 22 rfl) ?_
          refine lv_iload_n hx hb (zat zrX10_hungerFor_0_ok 23 rfl) rfl (lv_at hl 3 rfl) ?_
          refine lv_iload hx hb (zat zrX10_hungerFor_0_ok 24 rfl) (lv_at hl 0 rfl) ?_
          refine lv_iload hx hb (zat zrX10_hungerFor_0_ok 25 rfl) (lv_at hl 1 rfl) ?_
          obtain ⟨o46, eo46, h⟩ := bd_of h
          refine ck_i (wc := (bX6 a5 up kp p_p [])) (wr := ([(a0, .inr (7, [.ref a5, g9, g10, g11, g12, g13, g14, g15, .int o10.2.1, .int o10.2.2]))])) hP hD hK hS hA [0, 1, 2, 3, 4, 5, 6, 7, 8, 9] [10] rfl rfl (by decide) (by decide) (by decide) (fun hPc hDc => (va_runV (As := [.int k1, .int v30_l6, .int o22]) (rest := []) ⟨hx, hb, hml, hown, hts⟩ (kfX6_wishBy l dC dI a5 k1 v30_l6 o22 up kp p_p H.size o46 eo46) (cwV 3 hts gfX10_hungerFor_3 rfl rfl rfl (by decide +kernel) ⟨(Nat.le_of_ble_eq_true rfl), (Nat.le_of_ble_eq_true rfl)⟩) (PV hPc (hK.sub (tys' := (tX6 kp ([]))) [0, 1, 2, 3, 4, 5, 6, 7, 8] rfl) hDc hN 0 rfl rfl) rfl rfl hl.1 rfl (lv_room (Nat.le_of_ble_eq_true rfl)) (zat zrX10_hungerFor_0_ok 26 rfl) ⟨(Nat.le_of_ble_eq_true rfl), (Nat.le_of_ble_eq_true rfl)⟩)) (fun r46 _ H locs hw hP hD _ hS => ?_)
          obtain rfl := hw.symm
          obtain ⟨hP, hD⟩ := pd_mk ((a0, .inr (7, [.ref a5, g9, g10, g11, g12, g13, g14, g15, .int o10.2.1, .int o10.2.2])) :: bX6 a5 up kp p_p []) hP hD
          refine lv_bipush (v := 50) hx hb (zat zrX10_hungerFor_0_ok 27 rfl) (by decide) ?_
          refine lv_icmp_lt (tgt := 57) hx hb (zat zrX10_hungerFor_0_ok 28 rfl) (by decide) (fun c51 => ?_) (fun c51 => ?_)
          · have h := (if_pos c51).symm.trans h
            refine lv_iinc (v := (v30_l6 + (1 : Int32))) (lv' := [(6, .int (v30_l6 + (1 : Int32))), (5, .int o22), (0, .ref a0), (1, .int k1)]) hx hb (zat zrX10_hungerFor_0_ok 31 rfl) hl (k := 0) rfl rfl (by decide) rfl (fun ls hl => ?_)
            refine lv_goto (tgt := 30) hx hb (zat zrX10_hungerFor_0_ok 32 rfl) (by decide) ?_
            exact ih30 (v30_l6 + (1 : Int32)) H _ ls h  (hP.sub (ws' := (bX6 a5 up kp p_p ([(a0, .inr (7, [.ref a5, g9, g10, g11, g12, g13, g14, g15, .int o10.2.1, .int o10.2.2]))]))) [1, 2, 3, 4, 5, 6, 7, 8, 9, 10, 0] rfl) (hD.sub (ws' := (bX6 a5 up kp p_p ([(a0, .inr (7, [.ref a5, g9, g10, g11, g12, g13, g14, g15, .int o10.2.1, .int o10.2.2]))]))) [1, 2, 3, 4, 5, 6, 7, 8, 9, 10, 0] (by decide) rfl) hS (lv_sub hl [0, 1, 2, 3] rfl)
          · have h := (if_neg c51).symm.trans h
            refine lv_iload hx hb (zat zrX10_hungerFor_0_ok 29 rfl) (lv_at hl 0 rfl) ?_
            obtain rfl := Option.some.inj h
            obtain ⟨hP9, hD9⟩ := pd_sub ((a0, .inr (7, [.ref a5, g9, g10, g11, g12, g13, g14, g15, .int o10.2.1, .int o10.2.2])) :: bX6 a5 up kp p_p []) [0, 1, 2, 3, 4, 5, 6, 7, 8, 9, 10] hP hD (by decide) rfl
            have hK9 := hK.sub (tys' := []) [] rfl
            rw [hQQ]
            exact W.iret (v := v30_l6) hx hb hr (fun t ht hW => ⟨⟨v30_l6, (), rfl, rfl, by rw [ht]; exact hP9, va_K.moved hW.alike hK9, hD9⟩, hS.F ht⟩) hS.2.2 (zat zrX10_hungerFor_0_ok 30 rfl)
    exact L30 FU (0 : Int32) H _ ls h  hP hD hS (lv_sub hl [0, 1, 2, 3] rfl)
  · have h := (if_neg c13).symm.trans h
    refine lv_iconst (v := (-1)) hx hb (zat zrX10_hungerFor_0_ok 9 rfl) (by decide) ?_
    obtain rfl := Option.some.inj h
    obtain ⟨hP9, hD9⟩ := pd_sub ((a0, .inr (7, [.ref a5, g9, g10, g11, g12, g13, g14, g15, .int o10.2.1, .int o10.2.2])) :: bX6 a5 up kp p_p []) [10, 0, 1, 2, 3, 4, 5, 6, 7, 8, 9] hP hD (by decide) rfl
    have hK9 := hK.sub (tys' := []) [] rfl
    rw [hQQ]
    exact W.iret (v := (-1 : Int32)) hx hb hr (fun t ht hW => ⟨⟨(-1 : Int32), (), rfl, rfl, by rw [ht]; exact hP9, va_K.moved hW.alike hK9, hD9⟩, hS.F ht⟩) hS.2.2 (zat zrX10_hungerFor_0_ok 10 rfl)
