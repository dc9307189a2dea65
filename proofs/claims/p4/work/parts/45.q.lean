theorem dX5_meanWorth_0 : decode cX5_meanWorth 0 = .ok (.lconst 0, 1) := by decide +kernel
theorem dX5_meanWorth_1 : decode cX5_meanWorth 1 = .ok (.lstore_n 3, 1) := by decide +kernel
theorem dX5_meanWorth_11 : decode cX5_meanWorth 11 = .ok (.if_icmp .ge 40, 3) := by decide +kernel
theorem dX5_meanWorth_14 : decode cX5_meanWorth 14 = .ok (.aload_n 0, 1) := by decide +kernel
theorem dX5_meanWorth_15 : decode cX5_meanWorth 15 = .ok (.getfield 29, 3) := by decide +kernel
theorem dX5_meanWorth_18 : decode cX5_meanWorth 18 = .ok (.iload 5, 2) := by decide +kernel
theorem dX5_meanWorth_2 : decode cX5_meanWorth 2 = .ok (.iconst 0, 1) := by decide +kernel
theorem dX5_meanWorth_20 : decode cX5_meanWorth 20 = .ok (.iaload, 1) := by decide +kernel
theorem dX5_meanWorth_21 : decode cX5_meanWorth 21 = .ok (.iconst 2, 1) := by decide +kernel
theorem dX5_meanWorth_22 : decode cX5_meanWorth 22 = .ok (.if_icmp .eq 23, 3) := by decide +kernel
theorem dX5_meanWorth_25 : decode cX5_meanWorth 25 = .ok (.lload_n 3, 1) := by decide +kernel
theorem dX5_meanWorth_26 : decode cX5_meanWorth 26 = .ok (.aload_n 0, 1) := by decide +kernel
theorem dX5_meanWorth_27 : decode cX5_meanWorth 27 = .ok (.getfield 32, 3) := by decide +kernel
theorem dX5_meanWorth_3 : decode cX5_meanWorth 3 = .ok (.istore 5, 2) := by decide +kernel
theorem dX5_meanWorth_30 : decode cX5_meanWorth 30 = .ok (.iload 5, 2) := by decide +kernel
theorem dX5_meanWorth_32 : decode cX5_meanWorth 32 = .ok (.iaload, 1) := by decide +kernel
theorem dX5_meanWorth_33 : decode cX5_meanWorth 33 = .ok (.i2l, 1) := by decide +kernel
theorem dX5_meanWorth_34 : decode cX5_meanWorth 34 = .ok (.aload_n 0, 1) := by decide +kernel
theorem dX5_meanWorth_35 : decode cX5_meanWorth 35 = .ok (.aload_n 1, 1) := by decide +kernel
theorem dX5_meanWorth_36 : decode cX5_meanWorth 36 = .ok (.iload 5, 2) := by decide +kernel
theorem dX5_meanWorth_38 : decode cX5_meanWorth 38 = .ok (.iload_n 2, 1) := by decide +kernel
theorem dX5_meanWorth_39 : decode cX5_meanWorth 39 = .ok (.invokestatic 35, 3) := by decide +kernel
theorem dX5_meanWorth_42 : decode cX5_meanWorth 42 = .ok (.lmul, 1) := by decide +kernel
theorem dX5_meanWorth_43 : decode cX5_meanWorth 43 = .ok (.ladd, 1) := by decide +kernel
theorem dX5_meanWorth_44 : decode cX5_meanWorth 44 = .ok (.lstore_n 3, 1) := by decide +kernel
theorem dX5_meanWorth_45 : decode cX5_meanWorth 45 = .ok (.iinc 5 1, 3) := by decide +kernel
theorem dX5_meanWorth_48 : decode cX5_meanWorth 48 = .ok (.goto (-43), 3) := by decide +kernel
theorem dX5_meanWorth_5 : decode cX5_meanWorth 5 = .ok (.iload 5, 2) := by decide +kernel
theorem dX5_meanWorth_51 : decode cX5_meanWorth 51 = .ok (.lload_n 3, 1) := by decide +kernel
theorem dX5_meanWorth_52 : decode cX5_meanWorth 52 = .ok (.lreturn, 1) := by decide +kernel
theorem dX5_meanWorth_7 : decode cX5_meanWorth 7 = .ok (.aload_n 0, 1) := by decide +kernel
theorem dX5_meanWorth_8 : decode cX5_meanWorth 8 = .ok (.getfield 11, 3) := by decide +kernel
def vfX5_meanWorth : List Cond := List.cons (.code yX5_meanWorth cX5_meanWorth 6 (some .long)) (apW [.fieldLink RX5 11 "HookPier$Plan" "answers" "I", .fieldLink RX5 29 "HookPier$Plan" "kind" "[I", .fieldLink RX5 32 "HookPier$Plan" "told" "[I", .methodLink RX5 35 yX5_chance, .static yX5_chance, .initialized RX5] (apW wsX60 (vfX5_chance)))
theorem ifX5_meanWorth_X6 : ∀ w ∈ wsX60, w ∈ vfX5_meanWorth := fun _ h => (List.mem_cons_of_mem _ (List.mem_append_right _ (List.mem_append_left _ h)))
theorem qfX5_meanWorth : Good vfX5_meanWorth := gd_cons (by decide +kernel) (gd_app (gd_dec (by decide +kernel) : Good [.fieldLink RX5 11 "HookPier$Plan" "answers" "I", .fieldLink RX5 29 "HookPier$Plan" "kind" "[I", .fieldLink RX5 32 "HookPier$Plan" "told" "[I", .methodLink RX5 35 yX5_chance, .static yX5_chance, .initialized RX5]) (gd_app qsX6 qfX5_chance))
theorem gfX5_meanWorth_0 : GoodIn vfX5_meanWorth (va_wsS RX5 35 yX5_chance vfX5_chance) := goodIn_app (goodIn_r [.methodLink RX5 35 yX5_chance, .static yX5_chance, .initialized RX5] [4, 5, 6] rfl (by decide +kernel)) (goodIn_m (fun _ h => (List.mem_cons_of_mem _ (List.mem_append_right _ (List.mem_append_right _ h)))) qfX5_chance)
set_option maxHeartbeats 2000000 in
set_option maxRecDepth 100000 in
theorem kfX5_meanWorth (l : Launch) (dC : Nat → ClassId) (dI : Nat → Nat → Nat) (a0 : Nat) (a1 : Nat) (k2 : Int32) (up : Nat → Nat) (kp : Nat → ClassId) (un : Nat → Nat) (kn : Nat → ClassId) (p_p : TX6_p) (n_n : TX4_n) (sz : Nat) (out : Int64) (h : f_X5_meanWorth k2 p_p n_n = some out) : Met l yX5_meanWorth vfX5_meanWorth ({ frames := 4, cells := 0, slots := 0, locals := 95 }) (PC (dC, dI) [.ref a0, .ref a1, .int k2] sz (bX6 a0 up kp p_p (bX4 a1 un kn n_n [])) (tX6 kp (tX4 kn ([])))) (va_Ql (S := Unit) (fun (r : Int64) _ => r = out) (fun _ t => BC (dC, dI) (va_A (bX6 a0 up kp p_p (bX4 a1 un kn n_n [])) sz) (bX6 a0 up kp p_p (bX4 a1 un kn n_n [])) [] t) (va_A (bX6 a0 up kp p_p (bX4 a1 un kn n_n [])) sz)) 0 0 (va_A (bX6 a0 up kp p_p (bX4 a1 un kn n_n [])) sz) := by
  refine Met.ofW (cc := cX5_meanWorth) (maxL := 6) (ret := (some .long)) (by decide) rfl ?_
  intro p e s m args below meth c s₁ B0 hml hv
  obtain ⟨rfl, hsz, hP, hK, hD0, hN⟩ := hv
  have hx := B0.exec
  have hb := B0.bytes
  have hr := B0.returns
  have hts := atoms_spec (ws := vfX5_meanWorth) B0.pre
  have hown : s.vm.findClass RX5 = some m.cls := findClass_of_methodNamed B0.named
  have hlocks := B0.notSynchronized
  subst hsz
  have hD := hD0.self (sz := s.heap.size)
  generalize hAe : va_A (bX6 a0 up kp p_p (bX4 a1 un kn n_n [])) s.heap.size = A at hD ⊢
  have hA : ∀ q : Nat, s.heap.size ≤ q → A q := fun q h => by rw [← hAe]; exact Or.inr h
  have hS : va_S A s.heap s.heap [] := va_S.rf
  have hP : va_P (dC, dI) vwCl (bX6 a0 up kp p_p (bX4 a1 un kn n_n [])) s.heap := hP
  have hl := lv_entry ([.ref a0, .ref a1, .int k2]) (n := 6) (Nat.le_of_ble_eq_true rfl)
  rw [lg_entry_eq]
  generalize (lg_sl ([.ref a0, .ref a1, .int k2]) ++ List.replicate (6 - (lg_sl ([.ref a0, .ref a1, .int k2])).length) Slot.unset).toArray = ls at hl ⊢
  have hl : lv_has ls 6 [(0, .ref a0), (1, .ref a1), (2, .int k2)] := hl
  refine W_q (fun QQ hQQ => ?_)
  rw [f_X5_meanWorth] at h
  refine lv_lconst (v := 0) hx hb dX5_meanWorth_0 (by decide) ?_
  refine lv_lstore_n (lv' := [(3, .long 0), (0, .ref a0), (1, .ref a1), (2, .int k2)]) hx hb dX5_meanWorth_1 rfl hl (by decide) rfl (fun ls hl => ?_)
  refine lv_iconst (v := 0) hx hb dX5_meanWorth_2 (by decide) ?_
  refine lv_istore (lv' := [(5, .int 0), (3, .long 0), (0, .ref a0), (1, .ref a1), (2, .int k2)]) hx hb dX5_meanWorth_3 hl (by decide) rfl (fun ls hl => ?_)
  have L5 : ∀ (n5 : Nat) (v5_l5 : Int32) (v5_l3 : Int64) (H : Heap) (locs : List Loc) (ls : Array Slot), f_X5_meanWorth_L5 k2 p_p n_n n5 v5_l5 v5_l3 = some out → va_P (dC, dI) vwCl (bX6 a0 up kp p_p (bX4 a1 un kn n_n [])) H → va_D A (bX6 a0 up kp p_p (bX4 a1 un kn n_n [])) → va_S A s.heap H locs → lv_has ls 6 [(5, .int v5_l5), (3, .long v5_l3), (0, .ref a0), (1, .ref a1), (2, .int k2)] → W p l e (headSpec vfX5_meanWorth { frames := 4, cells := 0, slots := 0, locals := 95 }).room s m ([.ref a0, .ref a1, .int k2]).toArray below meth c H locs 0 0 QQ (F0 m 5 ls []) := by
    intro n5
    induction n5 with
    | zero =>
      intro v5_l5 v5_l3 H locs ls h  _ _ _ _
      rw [f_X5_meanWorth_L5] at h
      cases h
    | succ n5 ih5 =>
      intro v5_l5 v5_l3 H locs ls h  hP hD hS hl
      rw [f_X5_meanWorth_L5] at h
      refine lv_iload hx hb dX5_meanWorth_5 (lv_at hl 0 rfl) ?_
      refine lv_aload_n hx hb dX5_meanWorth_7 rfl (lv_at hl 2 rfl) ?_
      refine va_get (D := (dC, dI)) (ci := 4) (v := .int p_p.2.2.2.2.2.2.1) (C := RX6) (T := TX6) (N := 18) hx hb hts ifX5_meanWorth_X6 hown hK hP 0 rfl rfl 6 (by decide) (hts (.fieldLink RX5 11 "HookPier$Plan" "answers" "I") (List.mem_of_getElem? (i := 1) rfl)) (fun _ h9 => h9) rfl dX5_meanWorth_8 ?_
      refine lv_icmp_ge (tgt := 51) hx hb dX5_meanWorth_11 (by decide) (fun c11 => ?_) (fun c11 => ?_)
      · have h := (if_pos c11).symm.trans h
        refine lv_lload_n hx hb dX5_meanWorth_51 rfl (lv_at hl 1 rfl) ?_
        obtain rfl := Option.some.inj h
        have hP9 := hP.sub (ws' := (bX6 a0 up kp p_p (bX4 a1 un kn n_n []))) [0, 1, 2, 3, 4, 5, 6, 7, 8, 9, 10, 11, 12, 13, 14] rfl
        have hD9 := hD.sub (ws' := (bX6 a0 up kp p_p (bX4 a1 un kn n_n []))) [0, 1, 2, 3, 4, 5, 6, 7, 8, 9, 10, 11, 12, 13, 14] (by decide) rfl
        have hK9 := hK.sub (tys' := []) [] rfl
        rw [hQQ]
        exact W.lret (v := v5_l3) hx hb hr (fun t ht hW => ⟨⟨v5_l3, (), rfl, rfl, by rw [ht]; exact hP9, va_K.moved hW.alike hK9, hD9⟩, hS.F ht⟩) hS.2.2 dX5_meanWorth_52
      · have h := (if_neg c11).symm.trans h
        refine lv_aload_n hx hb dX5_meanWorth_14 rfl (lv_at hl 2 rfl) ?_
        refine va_get (D := (dC, dI)) (ci := 4) (v := .ref (up 1)) (C := RX6) (T := TX6) (N := 18) hx hb hts ifX5_meanWorth_X6 hown hK hP 0 rfl rfl 10 (by decide) (hts (.fieldLink RX5 29 "HookPier$Plan" "kind" "[I") (List.mem_of_getElem? (i := 2) rfl)) (fun _ h9 => h9) rfl dX5_meanWorth_15 ?_
        refine lv_iload hx hb dX5_meanWorth_18 (lv_at hl 0 rfl) ?_
        obtain ⟨hg20, h⟩ := gA_of h
        refine va_iald hx hb hK hP 2 1 rfl rfl hg20 dX5_meanWorth_20 ?_
        refine lv_iconst (v := 2) hx hb dX5_meanWorth_21 (by decide) ?_
        have J45 : ∀ (v45_l3 : Int64) (H : Heap) (locs : List Loc) (ls : Array Slot), f_X5_meanWorth_J45 (f_X5_meanWorth_L5 k2 p_p n_n n5) v5_l5 v45_l3 = some out → va_P (dC, dI) vwCl (bX6 a0 up kp p_p (bX4 a1 un kn n_n [])) H → va_D A (bX6 a0 up kp p_p (bX4 a1 un kn n_n [])) → va_S A s.heap H locs → lv_has ls 6 [(5, .int v5_l5), (3, .long v45_l3), (0, .ref a0), (1, .ref a1), (2, .int k2)] → W p l e (headSpec vfX5_meanWorth { frames := 4, cells := 0, slots := 0, locals := 95 }).room s m ([.ref a0, .ref a1, .int k2]).toArray below meth c H locs 0 0 QQ (F0 m 45 ls []) := by
          intro v45_l3 H locs ls h  hP hD hS hl
          rw [f_X5_meanWorth_J45] at h
          refine lv_iinc (v := (v5_l5 + (1 : Int32))) (lv' := [(5, .int (v5_l5 + (1 : Int32))), (3, .long v45_l3), (0, .ref a0), (1, .ref a1), (2, .int k2)]) hx hb dX5_meanWorth_45 hl (k := 0) rfl rfl (by decide) rfl (fun ls hl => ?_)
          refine lv_goto (tgt := 5) hx hb dX5_meanWorth_48 (by decide) ?_
          exact ih5 (v5_l5 + (1 : Int32)) v45_l3 H _ ls h  hP hD hS (lv_sub hl [0, 1, 2, 3, 4] rfl)
        refine lv_icmp_eq (tgt := 45) hx hb dX5_meanWorth_22 (by decide) (fun c22 => ?_) (fun c22 => ?_)
        · have h := (if_pos c22).symm.trans h
          exact J45 v5_l3 H _ ls h  hP hD hS (lv_sub hl [0, 1, 2, 3, 4] rfl)
        · have h := (if_neg c22).symm.trans h
          refine lv_lload_n hx hb dX5_meanWorth_25 rfl (lv_at hl 1 rfl) ?_
          refine lv_aload_n hx hb dX5_meanWorth_26 rfl (lv_at hl 2 rfl) ?_
          refine va_get (D := (dC, dI)) (ci := 4) (v := .ref (up 6)) (C := RX6) (T := TX6) (N := 18) hx hb hts ifX5_meanWorth_X6 hown hK hP 0 rfl rfl 15 (by decide) (hts (.fieldLink RX5 32 "HookPier$Plan" "told" "[I") (List.mem_of_getElem? (i := 3) rfl)) (fun _ h9 => h9) rfl dX5_meanWorth_27 ?_
          refine lv_iload hx hb dX5_meanWorth_30 (lv_at hl 0 rfl) ?_
          obtain ⟨hg32, h⟩ := gA_of h
          refine va_iald hx hb hK hP 7 6 rfl rfl hg32 dX5_meanWorth_32 ?_
          refine lv_i2l hx hb dX5_meanWorth_33 rfl ?_
          refine lv_topl (fun z33 ez33 => ?_)
          have h := nm_of h z33 ez33
          refine lv_aload_n hx hb dX5_meanWorth_34 rfl (lv_at hl 2 rfl) ?_
          refine lv_aload_n hx hb dX5_meanWorth_35 rfl (lv_at hl 3 rfl) ?_
          refine lv_iload hx hb dX5_meanWorth_36 (lv_at hl 0 rfl) ?_
          refine lv_iload_n hx hb dX5_meanWorth_38 rfl (lv_at hl 4 rfl) ?_
          obtain ⟨o39, eo39, h⟩ := bd_of h
          refine cl_l (wc := (bX6 a0 up kp p_p (bX4 a1 un kn n_n []))) (wr := []) (va_runS (As := [.ref a0, .ref a1, .int v5_l5, .int k2]) (rest := [.long z33, .long v5_l3]) ⟨hx, hb, hml, hown, hts⟩ (kfX5_chance l dC dI a0 a1 v5_l5 k2 up kp un kn p_p n_n H.size o39 eo39) (va_cwS 4 hts gfX5_meanWorth_0 rfl rfl rfl (by decide +kernel) ⟨(Nat.le_of_ble_eq_true rfl), (Nat.le_of_ble_eq_true rfl)⟩) (PS (hP.sub (ws' := (bX6 a0 up kp p_p (bX4 a1 un kn n_n []))) [0, 1, 2, 3, 4, 5, 6, 7, 8, 9, 10, 11, 12, 13, 14] rfl) (hK.sub (tys' := (tX6 kp (tX4 kn ([])))) [0, 1, 2, 3, 4, 5, 6, 7, 8, 9, 10, 11, 12] rfl) (hD.sub (ws' := (bX6 a0 up kp p_p (bX4 a1 un kn n_n []))) [0, 1, 2, 3, 4, 5, 6, 7, 8, 9, 10, 11, 12, 13, 14] (by decide) rfl) hN) rfl rfl hl.1 rfl (lv_room (Nat.le_of_ble_eq_true rfl)) dX5_meanWorth_39 ⟨(Nat.le_of_ble_eq_true rfl), (Nat.le_of_ble_eq_true rfl)⟩) hP hD hK hS hA [0, 1, 2, 3, 4, 5, 6, 7, 8, 9, 10, 11, 12, 13, 14] [] rfl rfl (by decide) (by decide) (fun r39 _ H locs hw hP hD _ hS => ?_)
          obtain rfl := hw.symm
          have hP : va_P (dC, dI) vwCl (bX6 a0 up kp p_p (bX4 a1 un kn n_n [])) H := hP
          have hD : va_D A (bX6 a0 up kp p_p (bX4 a1 un kn n_n [])) := hD
          refine lv_lmul hx hb dX5_meanWorth_42 ?_
          refine lv_ladd hx hb dX5_meanWorth_43 ?_
          refine lv_lstore_n (lv' := [(3, .long (v5_l3 + (z33 * o39))), (5, .int v5_l5), (0, .ref a0), (1, .ref a1), (2, .int k2)]) hx hb dX5_meanWorth_44 rfl hl (by decide) rfl (fun ls hl => ?_)
          exact J45 (v5_l3 + (z33 * o39)) H _ ls h  hP hD hS (lv_sub hl [1, 0, 2, 3, 4] rfl)
  exact L5 FU (0 : Int32) (0 : Int64) s.heap _ ls h  hP hD hS (lv_sub hl [0, 1, 2, 3, 4] rfl)
theorem dX10_mean_0 : decode cX10_mean 0 = .ok (.aload_n 0, 1) := by decide +kernel
theorem dX10_mean_1 : decode cX10_mean 1 = .ok (.aload_n 0, 1) := by decide +kernel
theorem dX10_mean_11 : decode cX10_mean 11 = .ok (.ifCond .eq 7, 3) := by decide +kernel
theorem dX10_mean_14 : decode cX10_mean 14 = .ok (.ldc2_w 187, 3) := by decide +kernel
theorem dX10_mean_17 : decode cX10_mean 17 = .ok (.lreturn, 1) := by decide +kernel
theorem dX10_mean_18 : decode cX10_mean 18 = .ok (.aload_n 0, 1) := by decide +kernel
theorem dX10_mean_19 : decode cX10_mean 19 = .ok (.getfield 10, 3) := by decide +kernel
theorem dX10_mean_2 : decode cX10_mean 2 = .ok (.iload_n 1, 1) := by decide +kernel
theorem dX10_mean_22 : decode cX10_mean 22 = .ok (.aload_n 0, 1) := by decide +kernel
theorem dX10_mean_23 : decode cX10_mean 23 = .ok (.getfield 29, 3) := by decide +kernel
theorem dX10_mean_26 : decode cX10_mean 26 = .ok (.iload_n 1, 1) := by decide +kernel
theorem dX10_mean_27 : decode cX10_mean 27 = .ok (.iload_n 2, 1) := by decide +kernel
theorem dX10_mean_28 : decode cX10_mean 28 = .ok (.iload_n 3, 1) := by decide +kernel
theorem dX10_mean_29 : decode cX10_mean 29 = .ok (.invokestatic 180, 3) := by decide +kernel
theorem dX10_mean_3 : decode cX10_mean 3 = .ok (.iload_n 2, 1) := by decide +kernel
theorem dX10_mean_32 : decode cX10_mean 32 = .ok (.invokestatic 202, 3) := by decide +kernel
theorem dX10_mean_35 : decode cX10_mean 35 = .ok (.iload 4, 2) := by decide +kernel
theorem dX10_mean_37 : decode cX10_mean 37 = .ok (.invokestatic 195, 3) := by decide +kernel
theorem dX10_mean_4 : decode cX10_mean 4 = .ok (.iload_n 3, 1) := by decide +kernel
theorem dX10_mean_40 : decode cX10_mean 40 = .ok (.lreturn, 1) := by decide +kernel
theorem dX10_mean_5 : decode cX10_mean 5 = .ok (.invokevirtual 199, 3) := by decide +kernel
theorem dX10_mean_8 : decode cX10_mean 8 = .ok (.invokevirtual 79, 3) := by decide +kernel
def vfX10_mean : List Cond := List.cons (.code yX10_mean cX10_mean 5 (some .long)) (apW [.methodLink RX10 199 yX10_questionTrouble, .instanceMethod yX10_questionTrouble, .selects RX10 yX10_questionTrouble yX10_questionTrouble, .initialized RX10, .methodLink RX10 79 yX10_refused, .instanceMethod yX10_refused, .selects RX10 yX10_refused yX10_refused, .fieldLink RX10 10 "HookPier" "plan" "LHookPier$Plan;", .fieldLink RX10 29 "HookPier" "now" "LHookPier$Now;", .methodLink RX10 180 yX10_question, .static yX10_question, .methodLink RX10 202 yX5_meanWorth, .static yX5_meanWorth, .initialized RX5, .methodLink RX10 195 yX5_term, .static yX5_term, .constantLong RX10 187 (-1)] (apW wsX100 (apW vfX10_questionTrouble (apW vfX10_refused (apW vfX10_question (apW vfX5_meanWorth (vfX5_term)))))))
theorem ifX10_mean_X10 : ∀ w ∈ wsX100, w ∈ vfX10_mean := fun _ h => (List.mem_cons_of_mem _ (List.mem_append_right _ (List.mem_append_left _ h)))
theorem qfX10_mean : Good vfX10_mean := gd_cons (by decide +kernel) (gd_app (gd_dec (by decide +kernel) : Good [.methodLink RX10 199 yX10_questionTrouble, .instanceMethod yX10_questionTrouble, .selects RX10 yX10_questionTrouble yX10_questionTrouble, .initialized RX10, .methodLink RX10 79 yX10_refused, .instanceMethod yX10_refused, .selects RX10 yX10_refused yX10_refused, .fieldLink RX10 10 "HookPier" "plan" "LHookPier$Plan;", .fieldLink RX10 29 "HookPier" "now" "LHookPier$Now;", .methodLink RX10 180 yX10_question, .static yX10_question, .methodLink RX10 202 yX5_meanWorth, .static yX5_meanWorth, .initialized RX5, .methodLink RX10 195 yX5_term, .static yX5_term, .constantLong RX10 187 (-1)]) (gd_app qsX10 (gd_app qfX10_questionTrouble (gd_app qfX10_refused (gd_app qfX10_question (gd_app qfX5_meanWorth qfX5_term))))))
theorem gfX10_mean_0 : GoodIn vfX10_mean (wsV RX10 199 RX10 yX10_questionTrouble vfX10_questionTrouble) := goodIn_app (goodIn_r [.methodLink RX10 199 yX10_questionTrouble, .instanceMethod yX10_questionTrouble, .selects RX10 yX10_questionTrouble yX10_questionTrouble, .initialized RX10] [1, 2, 3, 4] rfl (by decide +kernel)) (goodIn_m (fun _ h => (List.mem_cons_of_mem _ (List.mem_append_right _ (List.mem_append_right _ (List.mem_append_left _ h))))) qfX10_questionTrouble)
theorem gfX10_mean_1 : GoodIn vfX10_mean (wsV RX10 79 RX10 yX10_refused vfX10_refused) := goodIn_app (goodIn_r [.methodLink RX10 79 yX10_refused, .instanceMethod yX10_refused, .selects RX10 yX10_refused yX10_refused, .initialized RX10] [5, 6, 7, 4] rfl (by decide +kernel)) (goodIn_m (fun _ h => (List.mem_cons_of_mem _ (List.mem_append_right _ (List.mem_append_right _ (List.mem_append_right _ (List.mem_append_left _ h)))))) qfX10_refused)
theorem gfX10_mean_2 : GoodIn vfX10_mean (va_wsS RX10 180 yX10_question vfX10_question) := goodIn_app (goodIn_r [.methodLink RX10 180 yX10_question, .static yX10_question, .initialized RX10] [10, 11, 4] rfl (by decide +kernel)) (goodIn_m (fun _ h => (List.mem_cons_of_mem _ (List.mem_append_right _ (List.mem_append_right _ (List.mem_append_right _ (List.mem_append_right _ (List.mem_append_left _ h))))))) qfX10_question)
theorem gfX10_mean_3 : GoodIn vfX10_mean (va_wsS RX10 202 yX5_meanWorth vfX5_meanWorth) := goodIn_app (goodIn_r [.methodLink RX10 202 yX5_meanWorth, .static yX5_meanWorth, .initialized RX5] [12, 13, 14] rfl (by decide +kernel)) (goodIn_m (fun _ h => (List.mem_cons_of_mem _ (List.mem_append_right _ (List.mem_append_right _ (List.mem_append_right _ (List.mem_append_right _ (List.mem_append_right _ (List.mem_append_left _ h)))))))) qfX5_meanWorth)
theorem gfX10_mean_4 : GoodIn vfX10_mean (va_wsS RX10 195 yX5_term vfX5_term) := goodIn_app (goodIn_r [.methodLink RX10 195 yX5_term, .static yX5_term, .initialized RX5] [15, 16, 14] rfl (by decide +kernel)) (goodIn_m (fun _ h => (List.mem_cons_of_mem _ (List.mem_append_right _ (List.mem_append_right _ (List.mem_append_right _ (List.mem_append_right _ (List.mem_append_right _ (List.mem_append_right _ h)))))))) qfX5_term)
set_option maxHeartbeats 2000000 in
set_option maxRecDepth 100000 in
theorem kfX10_mean (l : Launch) (dC : Nat → ClassId) (dI : Nat → Nat → Nat) (a0 : Nat) (k1 : Int32) (k2 : Int32) (k3 : Int32) (k4 : Int32) (a5 : Nat) (a6 : Nat) (up : Nat → Nat) (kp : Nat → ClassId) (un : Nat → Nat) (kn : Nat → ClassId) (x_x : TX10_x) (g12 : Value) (g13 : Value) (g14 : Value) (g15 : Value) (g16 : Value) (g17 : Value) (p_p : TX6_p) (n_n : TX4_n) (sz : Nat) (out : (Int64 × TX10_x)) (h : f_X10_mean k1 k2 k3 k4 x_x p_p n_n = some out) : Met l yX10_mean vfX10_mean ({ frames := 5, cells := 0, slots := 0, locals := 120 }) (PC (dC, dI) [.ref a0, .int k1, .int k2, .int k3, .int k4] sz ((a0, .inr (7, [.ref a5, g12, g13, .ref a6, g14, g15, g16, g17, .int x_x.1, .int x_x.2])) :: bX6 a5 up kp p_p (bX4 a6 un kn n_n [])) (tX6 kp (tX4 kn ([])))) (va_Ql (S := Unit) (fun (r : Int64) _ => r = out.1) (fun _ t => BC (dC, dI) (va_A ((a0, .inr (7, [.ref a5, g12, g13, .ref a6, g14, g15, g16, g17, .int x_x.1, .int x_x.2])) :: bX6 a5 up kp p_p (bX4 a6 un kn n_n [])) sz) ((a0, .inr (7, [.ref a5, g12, g13, .ref a6, g14, g15, g16, g17, .int out.2.1, .int out.2.2])) :: bX6 a5 up kp p_p (bX4 a6 un kn n_n [])) [] t) (va_A ((a0, .inr (7, [.ref a5, g12, g13, .ref a6, g14, g15, g16, g17, .int x_x.1, .int x_x.2])) :: bX6 a5 up kp p_p (bX4 a6 un kn n_n [])) sz)) 0 0 (va_A ((a0, .inr (7, [.ref a5, g12, g13, .ref a6, g14, g15, g16, g17, .int x_x.1, .int x_x.2])) :: bX6 a5 up kp p_p (bX4 a6 un kn n_n [])) sz) := by
  refine Met.ofW (cc := cX10_mean) (maxL := 5) (ret := (some .long)) (by decide) rfl ?_
  intro p e s m args below meth c s₁ B0 hml hv
  obtain ⟨rfl, hsz, hP, hK, hD0, hN⟩ := hv
  have hx := B0.exec
  have hb := B0.bytes
  have hr := B0.returns
  have hts := atoms_spec (ws := vfX10_mean) B0.pre
  have hown : s.vm.findClass RX10 = some m.cls := findClass_of_methodNamed B0.named
  have hlocks := B0.notSynchronized
  subst hsz
  have hD := hD0.self (sz := s.heap.size)
  generalize hAe : va_A ((a0, .inr (7, [.ref a5, g12, g13, .ref a6, g14, g15, g16, g17, .int x_x.1, .int x_x.2])) :: bX6 a5 up kp p_p (bX4 a6 un kn n_n [])) s.heap.size = A at hD ⊢
  have hA : ∀ q : Nat, s.heap.size ≤ q → A q := fun q h => by rw [← hAe]; exact Or.inr h
  have hS : va_S A s.heap s.heap [] := va_S.rf
  have hP : va_P (dC, dI) vwCl ((a0, .inr (7, [.ref a5, g12, g13, .ref a6, g14, g15, g16, g17, .int x_x.1, .int x_x.2])) :: bX6 a5 up kp p_p (bX4 a6 un kn n_n [])) s.heap := hP
  have hl := lv_entry ([.ref a0, .int k1, .int k2, .int k3, .int k4]) (n := 5) (Nat.le_of_ble_eq_true rfl)
  rw [lg_entry_eq]
  generalize (lg_sl ([.ref a0, .int k1, .int k2, .int k3, .int k4]) ++ List.replicate (5 - (lg_sl ([.ref a0, .int k1, .int k2, .int k3, .int k4])).length) Slot.unset).toArray = ls at hl ⊢
  have hl : lv_has ls 5 [(0, .ref a0), (1, .int k1), (2, .int k2), (3, .int k3), (4, .int k4)] := hl
  refine W_q (fun QQ hQQ => ?_)
  rw [f_X10_mean] at h
  refine lv_aload_n hx hb dX10_mean_0 rfl (lv_at hl 0 rfl) ?_
  refine lv_aload_n hx hb dX10_mean_1 rfl (lv_at hl 0 rfl) ?_
  refine lv_iload_n hx hb dX10_mean_2 rfl (lv_at hl 1 rfl) ?_
  refine lv_iload_n hx hb dX10_mean_3 rfl (lv_at hl 2 rfl) ?_
  refine lv_iload_n hx hb dX10_mean_4 rfl (lv_at hl 3 rfl) ?_
  obtain ⟨o5, eo5⟩ : ∃ o, o = f_X10_questionTrouble k1 k2 k3 p_p := ⟨_, rfl⟩
  have h := nm_of h o5 eo5
  refine cl_i (wc := ((a0, .inr (7, [.ref a5, g12, g13, .ref a6, g14, g15, g16, g17, .int x_x.1, .int x_x.2])) :: bX6 a5 up kp p_p [])) (wr := (bX4 a6 un kn n_n [])) (va_runV (As := [.int k1, .int k2, .int k3]) (rest := [.ref a0]) ⟨hx, hb, hml, hown, hts⟩ (kfX10_questionTrouble l dC dI a0 k1 k2 k3 a5 up kp (g12) (g13) (.ref a6) (g14) (g15) (g16) (g17) (.int x_x.1) (.int x_x.2) p_p s.heap.size o5 eo5.symm) (cwV 3 hts gfX10_mean_0 rfl rfl rfl (by decide +kernel) ⟨(Nat.le_of_ble_eq_true rfl), (Nat.le_of_ble_eq_true rfl)⟩) (PV (hP.sub (ws' := ((a0, .inr (7, [.ref a5, g12, g13, .ref a6, g14, g15, g16, g17, .int x_x.1, .int x_x.2])) :: bX6 a5 up kp p_p [])) [0, 1, 2, 3, 4, 5, 6, 7, 8, 9, 10] rfl) (hK.sub (tys' := (tX6 kp ([]))) [0, 1, 2, 3, 4, 5, 6, 7, 8] rfl) (hD.sub (ws' := ((a0, .inr (7, [.ref a5, g12, g13, .ref a6, g14, g15, g16, g17, .int x_x.1, .int x_x.2])) :: bX6 a5 up kp p_p [])) [0, 1, 2, 3, 4, 5, 6, 7, 8, 9, 10] (by decide) rfl) hN 0 rfl rfl) rfl rfl hl.1 rfl (lv_room (Nat.le_of_ble_eq_true rfl)) dX10_mean_5 ⟨(Nat.le_of_ble_eq_true rfl), (Nat.le_of_ble_eq_true rfl)⟩) hP hD hK hS hA [0, 1, 2, 3, 4, 5, 6, 7, 8, 9, 10] [11, 12, 13, 14, 15] rfl rfl (by decide) (by decide) (fun r5 _ H locs hw hP hD _ hS => ?_)
  obtain rfl := hw.symm
  have hP : va_P (dC, dI) vwCl (bX4 a6 un kn n_n ((a0, .inr (7, [.ref a5, g12, g13, .ref a6, g14, g15, g16, g17, .int x_x.1, .int x_x.2])) :: bX6 a5 up kp p_p [])) H := hP
  have hD : va_D A (bX4 a6 un kn n_n ((a0, .inr (7, [.ref a5, g12, g13, .ref a6, g14, g15, g16, g17, .int x_x.1, .int x_x.2])) :: bX6 a5 up kp p_p [])) := hD
  obtain ⟨o8, eo8⟩ : ∃ o, o = f_X10_refused o5 x_x := ⟨_, rfl⟩
  have h := nm_of h o8 eo8
  refine cl_i (wc := ([(a0, .inr (7, [.ref a5, g12, g13, .ref a6, g14, g15, g16, g17, .int x_x.1, .int x_x.2]))])) (wr := (bX4 a6 un kn n_n (bX6 a5 up kp p_p []))) (va_runV (As := [.int o5]) (rest := []) ⟨hx, hb, hml, hown, hts⟩ (kfX10_refused l dC dI a0 o5 x_x (.ref a5) (g12) (g13) (.ref a6) (g14) (g15) (g16) (g17) H.size o8 eo8.symm) (cwV 1 hts gfX10_mean_1 rfl rfl rfl (by decide +kernel) ⟨(Nat.le_of_ble_eq_true rfl), (Nat.le_of_ble_eq_true rfl)⟩) (PV (hP.sub (ws' := ([(a0, .inr (7, [.ref a5, g12, g13, .ref a6, g14, g15, g16, g17, .int x_x.1, .int x_x.2]))])) [5] rfl) (hK.sub (tys' := ([])) [] rfl) (hD.sub (ws' := ([(a0, .inr (7, [.ref a5, g12, g13, .ref a6, g14, g15, g16, g17, .int x_x.1, .int x_x.2]))])) [5] (by decide) rfl) hN 0 rfl rfl) rfl rfl hl.1 rfl (lv_room (Nat.le_of_ble_eq_true rfl)) dX10_mean_8 ⟨(Nat.le_of_ble_eq_true rfl), (Nat.le_of_ble_eq_true rfl)⟩) hP hD hK hS hA [5] [0, 1, 2, 3, 4, 6, 7, 8, 9, 10, 11, 12, 13, 14, 15] rfl rfl (by decide) (by decide) (fun r8 _ H locs hw hP hD _ hS => ?_)
  obtain ⟨hw, br8⟩ := hw
  obtain rfl := hw
  have hP : va_P (dC, dI) vwCl (bX4 a6 un kn n_n (bX6 a5 up kp p_p ([(a0, .inr (7, [.ref a5, g12, g13, .ref a6, g14, g15, g16, g17, .int o8.2.1, .int o8.2.2]))]))) H := hP
  have hD : va_D A (bX4 a6 un kn n_n (bX6 a5 up kp p_p ([(a0, .inr (7, [.ref a5, g12, g13, .ref a6, g14, g15, g16, g17, .int o8.2.1, .int o8.2.2]))]))) := hD
  refine lv_if_eq (tgt := 18) hx hb dX10_mean_11 (by decide) (fun c11 => ?_) (fun c11 => ?_)
  · have h := (if_pos c11).symm.trans h
    refine lv_aload_n hx hb dX10_mean_18 rfl (lv_at hl 0 rfl) ?_
    refine va_get (D := (dC, dI)) (ci := 7) (v := .ref a5) (C := RX10) (T := TX10) (N := 10) hx hb hts ifX10_mean_X10 hown hK hP 15 rfl rfl 0 (by decide) (hts (.fieldLink RX10 10 "HookPier" "plan" "LHookPier$Plan;") (List.mem_of_getElem? (i := 8) rfl)) (fun _ h9 => h9) rfl dX10_mean_19 ?_
    refine lv_aload_n hx hb dX10_mean_22 rfl (lv_at hl 0 rfl) ?_
    refine va_get (D := (dC, dI)) (ci := 7) (v := .ref a6) (C := RX10) (T := TX10) (N := 10) hx hb hts ifX10_mean_X10 hown hK hP 15 rfl rfl 3 (by decide) (hts (.fieldLink RX10 29 "HookPier" "now" "LHookPier$Now;") (List.mem_of_getElem? (i := 9) rfl)) (fun _ h9 => h9) rfl dX10_mean_23 ?_
    refine lv_iload_n hx hb dX10_mean_26 rfl (lv_at hl 1 rfl) ?_
    refine lv_iload_n hx hb dX10_mean_27 rfl (lv_at hl 2 rfl) ?_
    refine lv_iload_n hx hb dX10_mean_28 rfl (lv_at hl 3 rfl) ?_
    obtain ⟨o29, eo29⟩ : ∃ o, o = f_X10_question k1 k2 k3 := ⟨_, rfl⟩
    have h := nm_of h o29 eo29
    refine cl_i (wc := []) (wr := (bX4 a6 un kn n_n (bX6 a5 up kp p_p ([(a0, .inr (7, [.ref a5, g12, g13, .ref a6, g14, g15, g16, g17, .int o8.2.1, .int o8.2.2]))])))) (va_runS (As := [.int k1, .int k2, .int k3]) (rest := [.ref a6, .ref a5]) ⟨hx, hb, hml, hown, hts⟩ (kfX10_question l dC dI k1 k2 k3 H.size o29 eo29.symm) (va_cwS 3 hts gfX10_mean_2 rfl rfl rfl (by decide +kernel) ⟨(Nat.le_of_ble_eq_true rfl), (Nat.le_of_ble_eq_true rfl)⟩) (PS (hP.sub (ws' := []) [] rfl) (hK.sub (tys' := ([])) [] rfl) (hD.sub (ws' := []) [] (by decide) rfl) hN) rfl rfl hl.1 rfl (lv_room (Nat.le_of_ble_eq_true rfl)) dX10_mean_29 ⟨(Nat.le_of_ble_eq_true rfl), (Nat.le_of_ble_eq_true rfl)⟩) hP hD hK hS hA [] [0, 1, 2, 3, 4, 5, 6, 7, 8, 9, 10, 11, 12, 13, 14, 15] rfl rfl (by decide) (by decide) (fun r29 _ H locs hw hP hD _ hS => ?_)
    obtain rfl := hw.symm
    have hP : va_P (dC, dI) vwCl (bX4 a6 un kn n_n (bX6 a5 up kp p_p ([(a0, .inr (7, [.ref a5, g12, g13, .ref a6, g14, g15, g16, g17, .int o8.2.1, .int o8.2.2]))]))) H := hP
    have hD : va_D A (bX4 a6 un kn n_n (bX6 a5 up kp p_p ([(a0, .inr (7, [.ref a5, g12, g13, .ref a6, g14, g15, g16, g17, .int o8.2.1, .int o8.2.2]))]))) := hD
    obtain ⟨o32, eo32, h⟩ := bd_of h
    refine cl_l (wc := (bX6 a5 up kp p_p (bX4 a6 un kn n_n []))) (wr := ([(a0, .inr (7, [.ref a5, g12, g13, .ref a6, g14, g15, g16, g17, .int o8.2.1, .int o8.2.2]))])) (va_runS (As := [.ref a5, .ref a6, .int o29]) (rest := []) ⟨hx, hb, hml, hown, hts⟩ (kfX5_meanWorth l dC dI a5 a6 o29 up kp un kn p_p n_n H.size o32 eo32) (va_cwS 3 hts gfX10_mean_3 rfl rfl rfl (by decide +kernel) ⟨(Nat.le_of_ble_eq_true rfl), (Nat.le_of_ble_eq_true rfl)⟩) (PS (hP.sub (ws' := (bX6 a5 up kp p_p (bX4 a6 un kn n_n []))) [5, 6, 7, 8, 9, 10, 11, 12, 13, 14, 0, 1, 2, 3, 4] rfl) (hK.sub (tys' := (tX6 kp (tX4 kn ([])))) [0, 1, 2, 3, 4, 5, 6, 7, 8, 9, 10, 11, 12] rfl) (hD.sub (ws' := (bX6 a5 up kp p_p (bX4 a6 un kn n_n []))) [5, 6, 7, 8, 9, 10, 11, 12, 13, 14, 0, 1, 2, 3, 4] (by decide) rfl) hN) rfl rfl hl.1 rfl (lv_room (Nat.le_of_ble_eq_true rfl)) dX10_mean_32 ⟨(Nat.le_of_ble_eq_true rfl), (Nat.le_of_ble_eq_true rfl)⟩) hP hD hK hS hA [5, 6, 7, 8, 9, 10, 11, 12, 13, 14, 0, 1, 2, 3, 4] [15] rfl rfl (by decide) (by decide) (fun r32 _ H locs hw hP hD _ hS => ?_)
    obtain rfl := hw.symm
    have hP : va_P (dC, dI) vwCl ((a0, .inr (7, [.ref a5, g12, g13, .ref a6, g14, g15, g16, g17, .int o8.2.1, .int o8.2.2])) :: bX6 a5 up kp p_p (bX4 a6 un kn n_n [])) H := hP
    have hD : va_D A ((a0, .inr (7, [.ref a5, g12, g13, .ref a6, g14, g15, g16, g17, .int o8.2.1, .int o8.2.2])) :: bX6 a5 up kp p_p (bX4 a6 un kn n_n [])) := hD
    refine lv_iload hx hb dX10_mean_35 (lv_at hl 4 rfl) ?_
    obtain ⟨o37, eo37, h⟩ := bd_of h
    refine cl_l (wc := []) (wr := ((a0, .inr (7, [.ref a5, g12, g13, .ref a6, g14, g15, g16, g17, .int o8.2.1, .int o8.2.2])) :: bX6 a5 up kp p_p (bX4 a6 un kn n_n []))) (va_runS (As := [.long o32, .int k4]) (rest := []) ⟨hx, hb, hml, hown, hts⟩ (kfX5_term l dC dI o32 k4 H.size o37 eo37) (va_cwS 2 hts gfX10_mean_4 rfl rfl rfl (by decide +kernel) ⟨(Nat.le_of_ble_eq_true rfl), (Nat.le_of_ble_eq_true rfl)⟩) (PS (hP.sub (ws' := []) [] rfl) (hK.sub (tys' := ([])) [] rfl) (hD.sub (ws' := []) [] (by decide) rfl) hN) rfl rfl hl.1 rfl (lv_room (Nat.le_of_ble_eq_true rfl)) dX10_mean_37 ⟨(Nat.le_of_ble_eq_true rfl), (Nat.le_of_ble_eq_true rfl)⟩) hP hD hK hS hA [] [0, 1, 2, 3, 4, 5, 6, 7, 8, 9, 10, 11, 12, 13, 14, 15] rfl rfl (by decide) (by decide) (fun r37 _ H locs hw hP hD _ hS => ?_)
    obtain rfl := hw.symm
    have hP : va_P (dC, dI) vwCl ((a0, .inr (7, [.ref a5, g12, g13, .ref a6, g14, g15, g16, g17, .int o8.2.1, .int o8.2.2])) :: bX6 a5 up kp p_p (bX4 a6 un kn n_n [])) H := hP
    have hD : va_D A ((a0, .inr (7, [.ref a5, g12, g13, .ref a6, g14, g15, g16, g17, .int o8.2.1, .int o8.2.2])) :: bX6 a5 up kp p_p (bX4 a6 un kn n_n [])) := hD
    obtain rfl := Option.some.inj h
    have hP9 := hP.sub (ws' := ((a0, .inr (7, [.ref a5, g12, g13, .ref a6, g14, g15, g16, g17, .int o8.2.1, .int o8.2.2])) :: bX6 a5 up kp p_p (bX4 a6 un kn n_n []))) [0, 1, 2, 3, 4, 5, 6, 7, 8, 9, 10, 11, 12, 13, 14, 15] rfl
    have hD9 := hD.sub (ws' := ((a0, .inr (7, [.ref a5, g12, g13, .ref a6, g14, g15, g16, g17, .int o8.2.1, .int o8.2.2])) :: bX6 a5 up kp p_p (bX4 a6 un kn n_n []))) [0, 1, 2, 3, 4, 5, 6, 7, 8, 9, 10, 11, 12, 13, 14, 15] (by decide) rfl
    have hK9 := hK.sub (tys' := []) [] rfl
    rw [hQQ]
    exact W.lret (v := o37) hx hb hr (fun t ht hW => ⟨⟨o37, (), rfl, rfl, by rw [ht]; exact hP9, va_K.moved hW.alike hK9, hD9⟩, hS.F ht⟩) hS.2.2 dX10_mean_40
  · have h := (if_neg c11).symm.trans h
    refine lv_ldc2 hx hb hown (hts (.constantLong RX10 187 (-1)) (List.mem_of_getElem? (i := 17) rfl)) dX10_mean_14 ?_
    obtain rfl := Option.some.inj h
    have hP9 := hP.sub (ws' := ((a0, .inr (7, [.ref a5, g12, g13, .ref a6, g14, g15, g16, g17, .int o8.2.1, .int o8.2.2])) :: bX6 a5 up kp p_p (bX4 a6 un kn n_n []))) [15, 5, 6, 7, 8, 9, 10, 11, 12, 13, 14, 0, 1, 2, 3, 4] rfl
    have hD9 := hD.sub (ws' := ((a0, .inr (7, [.ref a5, g12, g13, .ref a6, g14, g15, g16, g17, .int o8.2.1, .int o8.2.2])) :: bX6 a5 up kp p_p (bX4 a6 un kn n_n []))) [15, 5, 6, 7, 8, 9, 10, 11, 12, 13, 14, 0, 1, 2, 3, 4] (by decide) rfl
    have hK9 := hK.sub (tys' := []) [] rfl
    rw [hQQ]
    exact W.lret (v := (-1 : Int64)) hx hb hr (fun t ht hW => ⟨⟨(-1 : Int64), (), rfl, rfl, by rw [ht]; exact hP9, va_K.moved hW.alike hK9, hD9⟩, hS.F ht⟩) hS.2.2 dX10_mean_17
theorem dX5_likeliestTaker_0 : decode cX5_likeliestTaker 0 = .ok (.bipush (-2), 2) := by decide +kernel
theorem dX5_likeliestTaker_11 : decode cX5_likeliestTaker 11 = .ok (.aload_n 0, 1) := by decide +kernel
theorem dX5_likeliestTaker_12 : decode cX5_likeliestTaker 12 = .ok (.getfield 11, 3) := by decide +kernel
theorem dX5_likeliestTaker_15 : decode cX5_likeliestTaker 15 = .ok (.if_icmp .ge 34, 3) := by decide +kernel
theorem dX5_likeliestTaker_18 : decode cX5_likeliestTaker 18 = .ok (.aload_n 0, 1) := by decide +kernel
theorem dX5_likeliestTaker_19 : decode cX5_likeliestTaker 19 = .ok (.aload_n 1, 1) := by decide +kernel
theorem dX5_likeliestTaker_2 : decode cX5_likeliestTaker 2 = .ok (.istore_n 3, 1) := by decide +kernel
theorem dX5_likeliestTaker_20 : decode cX5_likeliestTaker 20 = .ok (.iload 6, 2) := by decide +kernel
theorem dX5_likeliestTaker_22 : decode cX5_likeliestTaker 22 = .ok (.iload_n 2, 1) := by decide +kernel
theorem dX5_likeliestTaker_23 : decode cX5_likeliestTaker 23 = .ok (.invokestatic 35, 3) := by decide +kernel
theorem dX5_likeliestTaker_26 : decode cX5_likeliestTaker 26 = .ok (.lstore 7, 2) := by decide +kernel
theorem dX5_likeliestTaker_28 : decode cX5_likeliestTaker 28 = .ok (.lload 7, 2) := by decide +kernel
theorem dX5_likeliestTaker_3 : decode cX5_likeliestTaker 3 = .ok (.lconst 0, 1) := by decide +kernel
theorem dX5_likeliestTaker_30 : decode cX5_likeliestTaker 30 = .ok (.lload 4, 2) := by decide +kernel
theorem dX5_likeliestTaker_32 : decode cX5_likeliestTaker 32 = .ok (.lcmp, 1) := by decide +kernel
theorem dX5_likeliestTaker_33 : decode cX5_likeliestTaker 33 = .ok (.ifCond .le 10, 3) := by decide +kernel
theorem dX5_likeliestTaker_36 : decode cX5_likeliestTaker 36 = .ok (.lload 7, 2) := by decide +kernel
theorem dX5_likeliestTaker_38 : decode cX5_likeliestTaker 38 = .ok (.lstore 4, 2) := by decide +kernel
theorem dX5_likeliestTaker_4 : decode cX5_likeliestTaker 4 = .ok (.lstore 4, 2) := by decide +kernel
theorem dX5_likeliestTaker_40 : decode cX5_likeliestTaker 40 = .ok (.iload 6, 2) := by decide +kernel
theorem dX5_likeliestTaker_42 : decode cX5_likeliestTaker 42 = .ok (.istore_n 3, 1) := by decide +kernel
theorem dX5_likeliestTaker_43 : decode cX5_likeliestTaker 43 = .ok (.iinc 6 1, 3) := by decide +kernel
theorem dX5_likeliestTaker_46 : decode cX5_likeliestTaker 46 = .ok (.goto (-37), 3) := by decide +kernel
theorem dX5_likeliestTaker_49 : decode cX5_likeliestTaker 49 = .ok (.iload_n 3, 1) := by decide +kernel
theorem dX5_likeliestTaker_50 : decode cX5_likeliestTaker 50 = .ok (.ireturn, 1) := by decide +kernel
theorem dX5_likeliestTaker_6 : decode cX5_likeliestTaker 6 = .ok (.iconst 0, 1) := by decide +kernel
theorem dX5_likeliestTaker_7 : decode cX5_likeliestTaker 7 = .ok (.istore 6, 2) := by decide +kernel
theorem dX5_likeliestTaker_9 : decode cX5_likeliestTaker 9 = .ok (.iload 6, 2) := by decide +kernel
def vfX5_likeliestTaker : List Cond := List.cons (.code yX5_likeliestTaker cX5_likeliestTaker 9 (some .int)) (apW [.fieldLink RX5 11 "HookPier$Plan" "answers" "I", .methodLink RX5 35 yX5_chance, .static yX5_chance, .initialized RX5] (apW wsX60 (vfX5_chance)))
theorem ifX5_likeliestTaker_X6 : ∀ w ∈ wsX60, w ∈ vfX5_likeliestTaker := fun _ h => (List.mem_cons_of_mem _ (List.mem_append_right _ (List.mem_append_left _ h)))
theorem qfX5_likeliestTaker : Good vfX5_likeliestTaker := gd_cons (by decide +kernel) (gd_app (gd_dec (by decide +kernel) : Good [.fieldLink RX5 11 "HookPier$Plan" "answers" "I", .methodLink RX5 35 yX5_chance, .static yX5_chance, .initialized RX5]) (gd_app qsX6 qfX5_chance))
theorem gfX5_likeliestTaker_0 : GoodIn vfX5_likeliestTaker (va_wsS RX5 35 yX5_chance vfX5_chance) := goodIn_app (goodIn_r [.methodLink RX5 35 yX5_chance, .static yX5_chance, .initialized RX5] [2, 3, 4] rfl (by decide +kernel)) (goodIn_m (fun _ h => (List.mem_cons_of_mem _ (List.mem_append_right _ (List.mem_append_right _ h)))) qfX5_chance)
set_option maxHeartbeats 2000000 in
set_option maxRecDepth 100000 in
theorem kfX5_likeliestTaker (l : Launch) (dC : Nat → ClassId) (dI : Nat → Nat → Nat) (a0 : Nat) (a1 : Nat) (k2 : Int32) (up : Nat → Nat) (kp : Nat → ClassId) (un : Nat → Nat) (kn : Nat → ClassId) (p_p : TX6_p) (n_n : TX4_n) (sz : Nat) (out : Int32) (h : f_X5_likeliestTaker k2 p_p n_n = some out) : Met l yX5_likeliestTaker vfX5_likeliestTaker ({ frames := 4, cells := 0, slots := 0, locals := 95 }) (PC (dC, dI) [.ref a0, .ref a1, .int k2] sz (bX6 a0 up kp p_p (bX4 a1 un kn n_n [])) (tX6 kp (tX4 kn ([])))) (va_Qi (S := Unit) (fun (r : Int32) _ => r = out) (fun _ t => BC (dC, dI) (va_A (bX6 a0 up kp p_p (bX4 a1 un kn n_n [])) sz) (bX6 a0 up kp p_p (bX4 a1 un kn n_n [])) [] t) (va_A (bX6 a0 up kp p_p (bX4 a1 un kn n_n [])) sz)) 0 0 (va_A (bX6 a0 up kp p_p (bX4 a1 un kn n_n [])) sz) := by
  refine Met.ofW (cc := cX5_likeliestTaker) (maxL := 9) (ret := (some .int)) (by decide) rfl ?_
  intro p e s m args below meth c s₁ B0 hml hv
  obtain ⟨rfl, hsz, hP, hK, hD0, hN⟩ := hv
  have hx := B0.exec
  have hb := B0.bytes
  have hr := B0.returns
  have hts := atoms_spec (ws := vfX5_likeliestTaker) B0.pre
  have hown : s.vm.findClass RX5 = some m.cls := findClass_of_methodNamed B0.named
  have hlocks := B0.notSynchronized
  subst hsz
  have hD := hD0.self (sz := s.heap.size)
  generalize hAe : va_A (bX6 a0 up kp p_p (bX4 a1 un kn n_n [])) s.heap.size = A at hD ⊢
  have hA : ∀ q : Nat, s.heap.size ≤ q → A q := fun q h => by rw [← hAe]; exact Or.inr h
  have hS : va_S A s.heap s.heap [] := va_S.rf
  have hP : va_P (dC, dI) vwCl (bX6 a0 up kp p_p (bX4 a1 un kn n_n [])) s.heap := hP
  have hl := lv_entry ([.ref a0, .ref a1, .int k2]) (n := 9) (Nat.le_of_ble_eq_true rfl)
  rw [lg_entry_eq]
  generalize (lg_sl ([.ref a0, .ref a1, .int k2]) ++ List.replicate (9 - (lg_sl ([.ref a0, .ref a1, .int k2])).length) Slot.unset).toArray = ls at hl ⊢
  have hl : lv_has ls 9 [(0, .ref a0), (1, .ref a1), (2, .int k2)] := hl
  refine W_q (fun QQ hQQ => ?_)
  rw [f_X5_likeliestTaker] at h
  refine lv_bipush (v := (-2)) hx hb dX5_likeliestTaker_0 (by decide) ?_
  refine lv_istore_n (lv' := [(3, .int (-2)), (0, .ref a0), (1, .ref a1), (2, .int k2)]) hx hb dX5_likeliestTaker_2 rfl hl (by decide) rfl (fun ls hl => ?_)
  refine lv_lconst (v := 0) hx hb dX5_likeliestTaker_3 (by decide) ?_
  refine lv_lstore (lv' := [(4, .long 0), (3, .int (-2)), (0, .ref a0), (1, .ref a1), (2, .int k2)]) hx hb dX5_likeliestTaker_4 hl (by decide) rfl (fun ls hl => ?_)
  refine lv_iconst (v := 0) hx hb dX5_likeliestTaker_6 (by decide) ?_
  refine lv_istore (lv' := [(6, .int 0), (4, .long 0), (3, .int (-2)), (0, .ref a0), (1, .ref a1), (2, .int k2)]) hx hb dX5_likeliestTaker_7 hl (by decide) rfl (fun ls hl => ?_)
  have L9 : ∀ (n9 : Nat) (v9_l6 : Int32) (v9_l4 : Int64) (v9_l3 : Int32) (H : Heap) (locs : List Loc) (ls : Array Slot), f_X5_likeliestTaker_L9 k2 p_p n_n n9 v9_l6 v9_l4 v9_l3 = some out → va_P (dC, dI) vwCl (bX6 a0 up kp p_p (bX4 a1 un kn n_n [])) H → va_D A (bX6 a0 up kp p_p (bX4 a1 un kn n_n [])) → va_S A s.heap H locs → lv_has ls 9 [(6, .int v9_l6), (4, .long v9_l4), (3, .int v9_l3), (0, .ref a0), (1, .ref a1), (2, .int k2)] → W p l e (headSpec vfX5_likeliestTaker { frames := 4, cells := 0, slots := 0, locals := 95 }).room s m ([.ref a0, .ref a1, .int k2]).toArray below meth c H locs 0 0 QQ (F0 m 9 ls []) := by
    intro n9
    induction n9 with
    | zero =>
      intro v9_l6 v9_l4 v9_l3 H locs ls h  _ _ _ _
      rw [f_X5_likeliestTaker_L9] at h
      cases h
    | succ n9 ih9 =>
      intro v9_l6 v9_l4 v9_l3 H locs ls h  hP hD hS hl
      rw [f_X5_likeliestTaker_L9] at h
      refine lv_iload hx hb dX5_likeliestTaker_9 (lv_at hl 0 rfl) ?_
      refine lv_aload_n hx hb dX5_likeliestTaker_11 rfl (lv_at hl 3 rfl) ?_
      refine va_get (D := (dC, dI)) (ci := 4) (v := .int p_p.2.2.2.2.2.2.1) (C := RX6) (T := TX6) (N := 18) hx hb hts ifX5_likeliestTaker_X6 hown hK hP 0 rfl rfl 6 (by decide) (hts (.fieldLink RX5 11 "HookPier$Plan" "answers" "I") (List.mem_of_getElem? (i := 1) rfl)) (fun _ h9 => h9) rfl dX5_likeliestTaker_12 ?_
      refine lv_icmp_ge (tgt := 49) hx hb dX5_likeliestTaker_15 (by decide) (fun c15 => ?_) (fun c15 => ?_)
      · have h := (if_pos c15).symm.trans h
        refine lv_iload_n hx hb dX5_likeliestTaker_49 rfl (lv_at hl 2 rfl) ?_
        obtain rfl := Option.some.inj h
        have hP9 := hP.sub (ws' := (bX6 a0 up kp p_p (bX4 a1 un kn n_n []))) [0, 1, 2, 3, 4, 5, 6, 7, 8, 9, 10, 11, 12, 13, 14] rfl
        have hD9 := hD.sub (ws' := (bX6 a0 up kp p_p (bX4 a1 un kn n_n []))) [0, 1, 2, 3, 4, 5, 6, 7, 8, 9, 10, 11, 12, 13, 14] (by decide) rfl
        have hK9 := hK.sub (tys' := []) [] rfl
        rw [hQQ]
        exact W.iret (v := v9_l3) hx hb hr (fun t ht hW => ⟨⟨v9_l3, (), rfl, rfl, by rw [ht]; exact hP9, va_K.moved hW.alike hK9, hD9⟩, hS.F ht⟩) hS.2.2 dX5_likeliestTaker_50
      · have h := (if_neg c15).symm.trans h
        refine lv_aload_n hx hb dX5_likeliestTaker_18 rfl (lv_at hl 3 rfl) ?_
        refine lv_aload_n hx hb dX5_likeliestTaker_19 rfl (lv_at hl 4 rfl) ?_
        refine lv_iload hx hb dX5_likeliestTaker_20 (lv_at hl 0 rfl) ?_
        refine lv_iload_n hx hb dX5_likeliestTaker_22 rfl (lv_at hl 5 rfl) ?_
        obtain ⟨o23, eo23, h⟩ := bd_of h
        refine cl_l (wc := (bX6 a0 up kp p_p (bX4 a1 un kn n_n []))) (wr := []) (va_runS (As := [.ref a0, .ref a1, .int v9_l6, .int k2]) (rest := []) ⟨hx, hb, hml, hown, hts⟩ (kfX5_chance l dC dI a0 a1 v9_l6 k2 up kp un kn p_p n_n H.size o23 eo23) (va_cwS 4 hts gfX5_likeliestTaker_0 rfl rfl rfl (by decide +kernel) ⟨(Nat.le_of_ble_eq_true rfl), (Nat.le_of_ble_eq_true rfl)⟩) (PS (hP.sub (ws' := (bX6 a0 up kp p_p (bX4 a1 un kn n_n []))) [0, 1, 2, 3, 4, 5, 6, 7, 8, 9, 10, 11, 12, 13, 14] rfl) (hK.sub (tys' := (tX6 kp (tX4 kn ([])))) [0, 1, 2, 3, 4, 5, 6, 7, 8, 9, 10, 11, 12] rfl) (hD.sub (ws' := (bX6 a0 up kp p_p (bX4 a1 un kn n_n []))) [0, 1, 2, 3, 4, 5, 6, 7, 8, 9, 10, 11, 12, 13, 14] (by decide) rfl) hN) rfl rfl hl.1 rfl (lv_room (Nat.le_of_ble_eq_true rfl)) dX5_likeliestTaker_23 ⟨(Nat.le_of_ble_eq_true rfl), (Nat.le_of_ble_eq_true rfl)⟩) hP hD hK hS hA [0, 1, 2, 3, 4, 5, 6, 7, 8, 9, 10, 11, 12, 13, 14] [] rfl rfl (by decide) (by decide) (fun r23 _ H locs hw hP hD _ hS => ?_)
        obtain rfl := hw.symm
        have hP : va_P (dC, dI) vwCl (bX6 a0 up kp p_p (bX4 a1 un kn n_n [])) H := hP
        have hD : va_D A (bX6 a0 up kp p_p (bX4 a1 un kn n_n [])) := hD
        refine lv_lstore (lv' := [(7, .long o23), (6, .int v9_l6), (4, .long v9_l4), (3, .int v9_l3), (0, .ref a0), (1, .ref a1), (2, .int k2)]) hx hb dX5_likeliestTaker_26 hl (by decide) rfl (fun ls hl => ?_)
        refine lv_lload hx hb dX5_likeliestTaker_28 (lv_at hl 0 rfl) ?_
        refine lv_lload hx hb dX5_likeliestTaker_30 (lv_at hl 2 rfl) ?_
        refine W.lcmp hx hb dX5_likeliestTaker_32 ?_
        have J43 : ∀ (v43_l4 : Int64) (v43_l3 : Int32) (H : Heap) (locs : List Loc) (ls : Array Slot), f_X5_likeliestTaker_J43 (f_X5_likeliestTaker_L9 k2 p_p n_n n9) v9_l6 v43_l4 v43_l3 = some out → va_P (dC, dI) vwCl (bX6 a0 up kp p_p (bX4 a1 un kn n_n [])) H → va_D A (bX6 a0 up kp p_p (bX4 a1 un kn n_n [])) → va_S A s.heap H locs → lv_has ls 9 [(6, .int v9_l6), (4, .long v43_l4), (3, .int v43_l3), (0, .ref a0), (1, .ref a1), (2, .int k2)] → W p l e (headSpec vfX5_likeliestTaker { frames := 4, cells := 0, slots := 0, locals := 95 }).room s m ([.ref a0, .ref a1, .int k2]).toArray below meth c H locs 0 0 QQ (F0 m 43 ls []) := by
          intro v43_l4 v43_l3 H locs ls h  hP hD hS hl
          rw [f_X5_likeliestTaker_J43] at h
          refine lv_iinc (v := (v9_l6 + (1 : Int32))) (lv' := [(6, .int (v9_l6 + (1 : Int32))), (4, .long v43_l4), (3, .int v43_l3), (0, .ref a0), (1, .ref a1), (2, .int k2)]) hx hb dX5_likeliestTaker_43 hl (k := 0) rfl rfl (by decide) rfl (fun ls hl => ?_)
          refine lv_goto (tgt := 9) hx hb dX5_likeliestTaker_46 (by decide) ?_
          exact ih9 (v9_l6 + (1 : Int32)) v43_l4 v43_l3 H _ ls h  hP hD hS (lv_sub hl [0, 1, 2, 3, 4, 5] rfl)
        refine lv_if_le (tgt := 43) hx hb dX5_likeliestTaker_33 (by decide) (fun c33 => ?_) (fun c33 => ?_)
        · have h := (if_pos c33).symm.trans h
          exact J43 v9_l4 v9_l3 H _ ls h  hP hD hS (lv_sub hl [1, 2, 3, 4, 5, 6] rfl)
        · have h := (if_neg c33).symm.trans h
          refine lv_lload hx hb dX5_likeliestTaker_36 (lv_at hl 0 rfl) ?_
          refine lv_lstore (lv' := [(4, .long o23), (7, .long o23), (6, .int v9_l6), (3, .int v9_l3), (0, .ref a0), (1, .ref a1), (2, .int k2)]) hx hb dX5_likeliestTaker_38 hl (by decide) rfl (fun ls hl => ?_)
          refine lv_iload hx hb dX5_likeliestTaker_40 (lv_at hl 2 rfl) ?_
          refine lv_istore_n (lv' := [(3, .int v9_l6), (4, .long o23), (7, .long o23), (6, .int v9_l6), (0, .ref a0), (1, .ref a1), (2, .int k2)]) hx hb dX5_likeliestTaker_42 rfl hl (by decide) rfl (fun ls hl => ?_)
          exact J43 o23 v9_l6 H _ ls h  hP hD hS (lv_sub hl [3, 1, 0, 4, 5, 6] rfl)
  exact L9 FU (0 : Int32) (0 : Int64) (-2 : Int32) s.heap _ ls h  hP hD hS (lv_sub hl [0, 1, 2, 3, 4, 5] rfl)
theorem dX10_likeliest_0 : decode cX10_likeliest 0 = .ok (.aload_n 0, 1) := by decide +kernel
theorem dX10_likeliest_1 : decode cX10_likeliest 1 = .ok (.aload_n 0, 1) := by decide +kernel
theorem dX10_likeliest_11 : decode cX10_likeliest 11 = .ok (.ifCond .eq 5, 3) := by decide +kernel
theorem dX10_likeliest_14 : decode cX10_likeliest 14 = .ok (.iconst (-1), 1) := by decide +kernel
theorem dX10_likeliest_15 : decode cX10_likeliest 15 = .ok (.ireturn, 1) := by decide +kernel
theorem dX10_likeliest_16 : decode cX10_likeliest 16 = .ok (.aload_n 0, 1) := by decide +kernel
theorem dX10_likeliest_17 : decode cX10_likeliest 17 = .ok (.getfield 10, 3) := by decide +kernel
theorem dX10_likeliest_2 : decode cX10_likeliest 2 = .ok (.iload_n 1, 1) := by decide +kernel
theorem dX10_likeliest_20 : decode cX10_likeliest 20 = .ok (.aload_n 0, 1) := by decide +kernel
theorem dX10_likeliest_21 : decode cX10_likeliest 21 = .ok (.getfield 29, 3) := by decide +kernel
theorem dX10_likeliest_24 : decode cX10_likeliest 24 = .ok (.iload_n 1, 1) := by decide +kernel
theorem dX10_likeliest_25 : decode cX10_likeliest 25 = .ok (.iload_n 2, 1) := by decide +kernel
theorem dX10_likeliest_26 : decode cX10_likeliest 26 = .ok (.iload_n 3, 1) := by decide +kernel
theorem dX10_likeliest_27 : decode cX10_likeliest 27 = .ok (.invokestatic 180, 3) := by decide +kernel
theorem dX10_likeliest_3 : decode cX10_likeliest 3 = .ok (.iload_n 2, 1) := by decide +kernel
theorem dX10_likeliest_30 : decode cX10_likeliest 30 = .ok (.invokestatic 206, 3) := by decide +kernel
theorem dX10_likeliest_33 : decode cX10_likeliest 33 = .ok (.ireturn, 1) := by decide +kernel
theorem dX10_likeliest_4 : decode cX10_likeliest 4 = .ok (.iload_n 3, 1) := by decide +kernel
theorem dX10_likeliest_5 : decode cX10_likeliest 5 = .ok (.invokevirtual 199, 3) := by decide +kernel
theorem dX10_likeliest_8 : decode cX10_likeliest 8 = .ok (.invokevirtual 79, 3) := by decide +kernel
def vfX10_likeliest : List Cond := List.cons (.code yX10_likeliest cX10_likeliest 4 (some .int)) (apW [.methodLink RX10 199 yX10_questionTrouble, .instanceMethod yX10_questionTrouble, .selects RX10 yX10_questionTrouble yX10_questionTrouble, .initialized RX10, .methodLink RX10 79 yX10_refused, .instanceMethod yX10_refused, .selects RX10 yX10_refused yX10_refused, .fieldLink RX10 10 "HookPier" "plan" "LHookPier$Plan;", .fieldLink RX10 29 "HookPier" "now" "LHookPier$Now;", .methodLink RX10 180 yX10_question, .static yX10_question, .methodLink RX10 206 yX5_likeliestTaker, .static yX5_likeliestTaker, .initialized RX5] (apW wsX100 (apW vfX10_questionTrouble (apW vfX10_refused (apW vfX10_question (vfX5_likeliestTaker))))))
theorem ifX10_likeliest_X10 : ∀ w ∈ wsX100, w ∈ vfX10_likeliest := fun _ h => (List.mem_cons_of_mem _ (List.mem_append_right _ (List.mem_append_left _ h)))
theorem qfX10_likeliest : Good vfX10_likeliest := gd_cons (by decide +kernel) (gd_app (gd_dec (by decide +kernel) : Good [.methodLink RX10 199 yX10_questionTrouble, .instanceMethod yX10_questionTrouble, .selects RX10 yX10_questionTrouble yX10_questionTrouble, .initialized RX10, .methodLink RX10 79 yX10_refused, .instanceMethod yX10_refused, .selects RX10 yX10_refused yX10_refused, .fieldLink RX10 10 "HookPier" "plan" "LHookPier$Plan;", .fieldLink RX10 29 "HookPier" "now" "LHookPier$Now;", .methodLink RX10 180 yX10_question, .static yX10_question, .methodLink RX10 206 yX5_likeliestTaker, .static yX5_likeliestTaker, .initialized RX5]) (gd_app qsX10 (gd_app qfX10_questionTrouble (gd_app qfX10_refused (gd_app qfX10_question qfX5_likeliestTaker)))))
theorem gfX10_likeliest_0 : GoodIn vfX10_likeliest (wsV RX10 199 RX10 yX10_questionTrouble vfX10_questionTrouble) := goodIn_app (goodIn_r [.methodLink RX10 199 yX10_questionTrouble, .instanceMethod yX10_questionTrouble, .selects RX10 yX10_questionTrouble yX10_questionTrouble, .initialized RX10] [1, 2, 3, 4] rfl (by decide +kernel)) (goodIn_m (fun _ h => (List.mem_cons_of_mem _ (List.mem_append_right _ (List.mem_append_right _ (List.mem_append_left _ h))))) qfX10_questionTrouble)
theorem gfX10_likeliest_1 : GoodIn vfX10_likeliest (wsV RX10 79 RX10 yX10_refused vfX10_refused) := goodIn_app (goodIn_r [.methodLink RX10 79 yX10_refused, .instanceMethod yX10_refused, .selects RX10 yX10_refused yX10_refused, .initialized RX10] [5, 6, 7, 4] rfl (by decide +kernel)) (goodIn_m (fun _ h => (List.mem_cons_of_mem _ (List.mem_append_right _ (List.mem_append_right _ (List.mem_append_right _ (List.mem_append_left _ h)))))) qfX10_refused)
theorem gfX10_likeliest_2 : GoodIn vfX10_likeliest (va_wsS RX10 180 yX10_question vfX10_question) := goodIn_app (goodIn_r [.methodLink RX10 180 yX10_question, .static yX10_question, .initialized RX10] [10, 11, 4] rfl (by decide +kernel)) (goodIn_m (fun _ h => (List.mem_cons_of_mem _ (List.mem_append_right _ (List.mem_append_right _ (List.mem_append_right _ (List.mem_append_right _ (List.mem_append_left _ h))))))) qfX10_question)
theorem gfX10_likeliest_3 : GoodIn vfX10_likeliest (va_wsS RX10 206 yX5_likeliestTaker vfX5_likeliestTaker) := goodIn_app (goodIn_r [.methodLink RX10 206 yX5_likeliestTaker, .static yX5_likeliestTaker, .initialized RX5] [12, 13, 14] rfl (by decide +kernel)) (goodIn_m (fun _ h => (List.mem_cons_of_mem _ (List.mem_append_right _ (List.mem_append_right _ (List.mem_append_right _ (List.mem_append_right _ (List.mem_append_right _ h))))))) qfX5_likeliestTaker)
set_option maxHeartbeats 2000000 in
set_option maxRecDepth 100000 in
theorem kfX10_likeliest (l : Launch) (dC : Nat → ClassId) (dI : Nat → Nat → Nat) (a0 : Nat) (k1 : Int32) (k2 : Int32) (k3 : Int32) (a4 : Nat) (a5 : Nat) (up : Nat → Nat) (kp : Nat → ClassId) (un : Nat → Nat) (kn : Nat → ClassId) (x_x : TX10_x) (g11 : Value) (g12 : Value) (g13 : Value) (g14 : Value) (g15 : Value) (g16 : Value) (p_p : TX6_p) (n_n : TX4_n) (sz : Nat) (out : (Int32 × TX10_x)) (h : f_X10_likeliest k1 k2 k3 x_x p_p n_n = some out) : Met l yX10_likeliest vfX10_likeliest ({ frames := 5, cells := 0, slots := 0, locals := 123 }) (PC (dC, dI) [.ref a0, .int k1, .int k2, .int k3] sz ((a0, .inr (7, [.ref a4, g11, g12, .ref a5, g13, g14, g15, g16, .int x_x.1, .int x_x.2])) :: bX6 a4 up kp p_p (bX4 a5 un kn n_n [])) (tX6 kp (tX4 kn ([])))) (va_Qi (S := Unit) (fun (r : Int32) _ => r = out.1) (fun _ t => BC (dC, dI) (va_A ((a0, .inr (7, [.ref a4, g11, g12, .ref a5, g13, g14, g15, g16, .int x_x.1, .int x_x.2])) :: bX6 a4 up kp p_p (bX4 a5 un kn n_n [])) sz) ((a0, .inr (7, [.ref a4, g11, g12, .ref a5, g13, g14, g15, g16, .int out.2.1, .int out.2.2])) :: bX6 a4 up kp p_p (bX4 a5 un kn n_n [])) [] t) (va_A ((a0, .inr (7, [.ref a4, g11, g12, .ref a5, g13, g14, g15, g16, .int x_x.1, .int x_x.2])) :: bX6 a4 up kp p_p (bX4 a5 un kn n_n [])) sz)) 0 0 (va_A ((a0, .inr (7, [.ref a4, g11, g12, .ref a5, g13, g14, g15, g16, .int x_x.1, .int x_x.2])) :: bX6 a4 up kp p_p (bX4 a5 un kn n_n [])) sz) := by
  refine Met.ofW (cc := cX10_likeliest) (maxL := 4) (ret := (some .int)) (by decide) rfl ?_
  intro p e s m args below meth c s₁ B0 hml hv
  obtain ⟨rfl, hsz, hP, hK, hD0, hN⟩ := hv
  have hx := B0.exec
  have hb := B0.bytes
  have hr := B0.returns
  have hts := atoms_spec (ws := vfX10_likeliest) B0.pre
  have hown : s.vm.findClass RX10 = some m.cls := findClass_of_methodNamed B0.named
  have hlocks := B0.notSynchronized
  subst hsz
  have hD := hD0.self (sz := s.heap.size)
  generalize hAe : va_A ((a0, .inr (7, [.ref a4, g11, g12, .ref a5, g13, g14, g15, g16, .int x_x.1, .int x_x.2])) :: bX6 a4 up kp p_p (bX4 a5 un kn n_n [])) s.heap.size = A at hD ⊢
  have hA : ∀ q : Nat, s.heap.size ≤ q → A q := fun q h => by rw [← hAe]; exact Or.inr h
  have hS : va_S A s.heap s.heap [] := va_S.rf
  have hP : va_P (dC, dI) vwCl ((a0, .inr (7, [.ref a4, g11, g12, .ref a5, g13, g14, g15, g16, .int x_x.1, .int x_x.2])) :: bX6 a4 up kp p_p (bX4 a5 un kn n_n [])) s.heap := hP
  have hl := lv_entry ([.ref a0, .int k1, .int k2, .int k3]) (n := 4) (Nat.le_of_ble_eq_true rfl)
  rw [lg_entry_eq]
  generalize (lg_sl ([.ref a0, .int k1, .int k2, .int k3]) ++ List.replicate (4 - (lg_sl ([.ref a0, .int k1, .int k2, .int k3])).length) Slot.unset).toArray = ls at hl ⊢
  have hl : lv_has ls 4 [(0, .ref a0), (1, .int k1), (2, .int k2), (3, .int k3)] := hl
  refine W_q (fun QQ hQQ => ?_)
  rw [f_X10_likeliest] at h
  refine lv_aload_n hx hb dX10_likeliest_0 rfl (lv_at hl 0 rfl) ?_
  refine lv_aload_n hx hb dX10_likeliest_1 rfl (lv_at hl 0 rfl) ?_
  refine lv_iload_n hx hb dX10_likeliest_2 rfl (lv_at hl 1 rfl) ?_
  refine lv_iload_n hx hb dX10_likeliest_3 rfl (lv_at hl 2 rfl) ?_
  refine lv_iload_n hx hb dX10_likeliest_4 rfl (lv_at hl 3 rfl) ?_
  obtain ⟨o5, eo5⟩ : ∃ o, o = f_X10_questionTrouble k1 k2 k3 p_p := ⟨_, rfl⟩
  have h := nm_of h o5 eo5
  refine cl_i (wc := ((a0, .inr (7, [.ref a4, g11, g12, .ref a5, g13, g14, g15, g16, .int x_x.1, .int x_x.2])) :: bX6 a4 up kp p_p [])) (wr := (bX4 a5 un kn n_n [])) (va_runV (As := [.int k1, .int k2, .int k3]) (rest := [.ref a0]) ⟨hx, hb, hml, hown, hts⟩ (kfX10_questionTrouble l dC dI a0 k1 k2 k3 a4 up kp (g11) (g12) (.ref a5) (g13) (g14) (g15) (g16) (.int x_x.1) (.int x_x.2) p_p s.heap.size o5 eo5.symm) (cwV 3 hts gfX10_likeliest_0 rfl rfl rfl (by decide +kernel) ⟨(Nat.le_of_ble_eq_true rfl), (Nat.le_of_ble_eq_true rfl)⟩) (PV (hP.sub (ws' := ((a0, .inr (7, [.ref a4, g11, g12, .ref a5, g13, g14, g15, g16, .int x_x.1, .int x_x.2])) :: bX6 a4 up kp p_p [])) [0, 1, 2, 3, 4, 5, 6, 7, 8, 9, 10] rfl) (hK.sub (tys' := (tX6 kp ([]))) [0, 1, 2, 3, 4, 5, 6, 7, 8] rfl) (hD.sub (ws' := ((a0, .inr (7, [.ref a4, g11, g12, .ref a5, g13, g14, g15, g16, .int x_x.1, .int x_x.2])) :: bX6 a4 up kp p_p [])) [0, 1, 2, 3, 4, 5, 6, 7, 8, 9, 10] (by decide) rfl) hN 0 rfl rfl) rfl rfl hl.1 rfl (lv_room (Nat.le_of_ble_eq_true rfl)) dX10_likeliest_5 ⟨(Nat.le_of_ble_eq_true rfl), (Nat.le_of_ble_eq_true rfl)⟩) hP hD hK hS hA [0, 1, 2, 3, 4, 5, 6, 7, 8, 9, 10] [11, 12, 13, 14, 15] rfl rfl (by decide) (by decide) (fun r5 _ H locs hw hP hD _ hS => ?_)
  obtain rfl := hw.symm
  have hP : va_P (dC, dI) vwCl (bX4 a5 un kn n_n ((a0, .inr (7, [.ref a4, g11, g12, .ref a5, g13, g14, g15, g16, .int x_x.1, .int x_x.2])) :: bX6 a4 up kp p_p [])) H := hP
  have hD : va_D A (bX4 a5 un kn n_n ((a0, .inr (7, [.ref a4, g11, g12, .ref a5, g13, g14, g15, g16, .int x_x.1, .int x_x.2])) :: bX6 a4 up kp p_p [])) := hD
  obtain ⟨o8, eo8⟩ : ∃ o, o = f_X10_refused o5 x_x := ⟨_, rfl⟩
  have h := nm_of h o8 eo8
  refine cl_i (wc := ([(a0, .inr (7, [.ref a4, g11, g12, .ref a5, g13, g14, g15, g16, .int x_x.1, .int x_x.2]))])) (wr := (bX4 a5 un kn n_n (bX6 a4 up kp p_p []))) (va_runV (As := [.int o5]) (rest := []) ⟨hx, hb, hml, hown, hts⟩ (kfX10_refused l dC dI a0 o5 x_x (.ref a4) (g11) (g12) (.ref a5) (g13) (g14) (g15) (g16) H.size o8 eo8.symm) (cwV 1 hts gfX10_likeliest_1 rfl rfl rfl (by decide +kernel) ⟨(Nat.le_of_ble_eq_true rfl), (Nat.le_of_ble_eq_true rfl)⟩) (PV (hP.sub (ws' := ([(a0, .inr (7, [.ref a4, g11, g12, .ref a5, g13, g14, g15, g16, .int x_x.1, .int x_x.2]))])) [5] rfl) (hK.sub (tys' := ([])) [] rfl) (hD.sub (ws' := ([(a0, .inr (7, [.ref a4, g11, g12, .ref a5, g13, g14, g15, g16, .int x_x.1, .int x_x.2]))])) [5] (by decide) rfl) hN 0 rfl rfl) rfl rfl hl.1 rfl (lv_room (Nat.le_of_ble_eq_true rfl)) dX10_likeliest_8 ⟨(Nat.le_of_ble_eq_true rfl), (Nat.le_of_ble_eq_true rfl)⟩) hP hD hK hS hA [5] [0, 1, 2, 3, 4, 6, 7, 8, 9, 10, 11, 12, 13, 14, 15] rfl rfl (by decide) (by decide) (fun r8 _ H locs hw hP hD _ hS => ?_)
  obtain ⟨hw, br8⟩ := hw
  obtain rfl := hw
  have hP : va_P (dC, dI) vwCl (bX4 a5 un kn n_n (bX6 a4 up kp p_p ([(a0, .inr (7, [.ref a4, g11, g12, .ref a5, g13, g14, g15, g16, .int o8.2.1, .int o8.2.2]))]))) H := hP
  have hD : va_D A (bX4 a5 un kn n_n (bX6 a4 up kp p_p ([(a0, .inr (7, [.ref a4, g11, g12, .ref a5, g13, g14, g15, g16, .int o8.2.1, .int o8.2.2]))]))) := hD
  refine lv_if_eq (tgt := 16) hx hb dX10_likeliest_11 (by decide) (fun c11 => ?_) (fun c11 => ?_)
  · have h := (if_pos c11).symm.trans h
    refine lv_aload_n hx hb dX10_likeliest_16 rfl (lv_at hl 0 rfl) ?_
    refine va_get (D := (dC, dI)) (ci := 7) (v := .ref a4) (C := RX10) (T := TX10) (N := 10) hx hb hts ifX10_likeliest_X10 hown hK hP 15 rfl rfl 0 (by decide) (hts (.fieldLink RX10 10 "HookPier" "plan" "LHookPier$Plan;") (List.mem_of_getElem? (i := 8) rfl)) (fun _ h9 => h9) rfl dX10_likeliest_17 ?_
    refine lv_aload_n hx hb dX10_likeliest_20 rfl (lv_at hl 0 rfl) ?_
    refine va_get (D := (dC, dI)) (ci := 7) (v := .ref a5) (C := RX10) (T := TX10) (N := 10) hx hb hts ifX10_likeliest_X10 hown hK hP 15 rfl rfl 3 (by decide) (hts (.fieldLink RX10 29 "HookPier" "now" "LHookPier$Now;") (List.mem_of_getElem? (i := 9) rfl)) (fun _ h9 => h9) rfl dX10_likeliest_21 ?_
    refine lv_iload_n hx hb dX10_likeliest_24 rfl (lv_at hl 1 rfl) ?_
    refine lv_iload_n hx hb dX10_likeliest_25 rfl (lv_at hl 2 rfl) ?_
    refine lv_iload_n hx hb dX10_likeliest_26 rfl (lv_at hl 3 rfl) ?_
    obtain ⟨o27, eo27⟩ : ∃ o, o = f_X10_question k1 k2 k3 := ⟨_, rfl⟩
    have h := nm_of h o27 eo27
    refine cl_i (wc := []) (wr := (bX4 a5 un kn n_n (bX6 a4 up kp p_p ([(a0, .inr (7, [.ref a4, g11, g12, .ref a5, g13, g14, g15, g16, .int o8.2.1, .int o8.2.2]))])))) (va_runS (As := [.int k1, .int k2, .int k3]) (rest := [.ref a5, .ref a4]) ⟨hx, hb, hml, hown, hts⟩ (kfX10_question l dC dI k1 k2 k3 H.size o27 eo27.symm) (va_cwS 3 hts gfX10_likeliest_2 rfl rfl rfl (by decide +kernel) ⟨(Nat.le_of_ble_eq_true rfl), (Nat.le_of_ble_eq_true rfl)⟩) (PS (hP.sub (ws' := []) [] rfl) (hK.sub (tys' := ([])) [] rfl) (hD.sub (ws' := []) [] (by decide) rfl) hN) rfl rfl hl.1 rfl (lv_room (Nat.le_of_ble_eq_true rfl)) dX10_likeliest_27 ⟨(Nat.le_of_ble_eq_true rfl), (Nat.le_of_ble_eq_true rfl)⟩) hP hD hK hS hA [] [0, 1, 2, 3, 4, 5, 6, 7, 8, 9, 10, 11, 12, 13, 14, 15] rfl rfl (by decide) (by decide) (fun r27 _ H locs hw hP hD _ hS => ?_)
    obtain rfl := hw.symm
    have hP : va_P (dC, dI) vwCl (bX4 a5 un kn n_n (bX6 a4 up kp p_p ([(a0, .inr (7, [.ref a4, g11, g12, .ref a5, g13, g14, g15, g16, .int o8.2.1, .int o8.2.2]))]))) H := hP
    have hD : va_D A (bX4 a5 un kn n_n (bX6 a4 up kp p_p ([(a0, .inr (7, [.ref a4, g11, g12, .ref a5, g13, g14, g15, g16, .int o8.2.1, .int o8.2.2]))]))) := hD
    obtain ⟨o30, eo30, h⟩ := bd_of h
    refine cl_i (wc := (bX6 a4 up kp p_p (bX4 a5 un kn n_n []))) (wr := ([(a0, .inr (7, [.ref a4, g11, g12, .ref a5, g13, g14, g15, g16, .int o8.2.1, .int o8.2.2]))])) (va_runS (As := [.ref a4, .ref a5, .int o27]) (rest := []) ⟨hx, hb, hml, hown, hts⟩ (kfX5_likeliestTaker l dC dI a4 a5 o27 up kp un kn p_p n_n H.size o30 eo30) (va_cwS 3 hts gfX10_likeliest_3 rfl rfl rfl (by decide +kernel) ⟨(Nat.le_of_ble_eq_true rfl), (Nat.le_of_ble_eq_true rfl)⟩) (PS (hP.sub (ws' := (bX6 a4 up kp p_p (bX4 a5 un kn n_n []))) [5, 6, 7, 8, 9, 10, 11, 12, 13, 14, 0, 1, 2, 3, 4] rfl) (hK.sub (tys' := (tX6 kp (tX4 kn ([])))) [0, 1, 2, 3, 4, 5, 6, 7, 8, 9, 10, 11, 12] rfl) (hD.sub (ws' := (bX6 a4 up kp p_p (bX4 a5 un kn n_n []))) [5, 6, 7, 8, 9, 10, 11, 12, 13, 14, 0, 1, 2, 3, 4] (by decide) rfl) hN) rfl rfl hl.1 rfl (lv_room (Nat.le_of_ble_eq_true rfl)) dX10_likeliest_30 ⟨(Nat.le_of_ble_eq_true rfl), (Nat.le_of_ble_eq_true rfl)⟩) hP hD hK hS hA [5, 6, 7, 8, 9, 10, 11, 12, 13, 14, 0, 1, 2, 3, 4] [15] rfl rfl (by decide) (by decide) (fun r30 _ H locs hw hP hD _ hS => ?_)
    obtain rfl := hw.symm
    have hP : va_P (dC, dI) vwCl ((a0, .inr (7, [.ref a4, g11, g12, .ref a5, g13, g14, g15, g16, .int o8.2.1, .int o8.2.2])) :: bX6 a4 up kp p_p (bX4 a5 un kn n_n [])) H := hP
    have hD : va_D A ((a0, .inr (7, [.ref a4, g11, g12, .ref a5, g13, g14, g15, g16, .int o8.2.1, .int o8.2.2])) :: bX6 a4 up kp p_p (bX4 a5 un kn n_n [])) := hD
    obtain rfl := Option.some.inj h
    have hP9 := hP.sub (ws' := ((a0, .inr (7, [.ref a4, g11, g12, .ref a5, g13, g14, g15, g16, .int o8.2.1, .int o8.2.2])) :: bX6 a4 up kp p_p (bX4 a5 un kn n_n []))) [0, 1, 2, 3, 4, 5, 6, 7, 8, 9, 10, 11, 12, 13, 14, 15] rfl
    have hD9 := hD.sub (ws' := ((a0, .inr (7, [.ref a4, g11, g12, .ref a5, g13, g14, g15, g16, .int o8.2.1, .int o8.2.2])) :: bX6 a4 up kp p_p (bX4 a5 un kn n_n []))) [0, 1, 2, 3, 4, 5, 6, 7, 8, 9, 10, 11, 12, 13, 14, 15] (by decide) rfl
    have hK9 := hK.sub (tys' := []) [] rfl
    rw [hQQ]
    exact W.iret (v := o30) hx hb hr (fun t ht hW => ⟨⟨o30, (), rfl, rfl, by rw [ht]; exact hP9, va_K.moved hW.alike hK9, hD9⟩, hS.F ht⟩) hS.2.2 dX10_likeliest_33
  · have h := (if_neg c11).symm.trans h
    refine lv_iconst (v := (-1)) hx hb dX10_likeliest_14 (by decide) ?_
    obtain rfl := Option.some.inj h
    have hP9 := hP.sub (ws' := ((a0, .inr (7, [.ref a4, g11, g12, .ref a5, g13, g14, g15, g16, .int o8.2.1, .int o8.2.2])) :: bX6 a4 up kp p_p (bX4 a5 un kn n_n []))) [15, 5, 6, 7, 8, 9, 10, 11, 12, 13, 14, 0, 1, 2, 3, 4] rfl
    have hD9 := hD.sub (ws' := ((a0, .inr (7, [.ref a4, g11, g12, .ref a5, g13, g14, g15, g16, .int o8.2.1, .int o8.2.2])) :: bX6 a4 up kp p_p (bX4 a5 un kn n_n []))) [15, 5, 6, 7, 8, 9, 10, 11, 12, 13, 14, 0, 1, 2, 3, 4] (by decide) rfl
    have hK9 := hK.sub (tys' := []) [] rfl
    rw [hQQ]
    exact W.iret (v := (-1 : Int32)) hx hb hr (fun t ht hW => ⟨⟨(-1 : Int32), (), rfl, rfl, by rw [ht]; exact hP9, va_K.moved hW.alike hK9, hD9⟩, hS.F ht⟩) hS.2.2 dX10_likeliest_15
theorem dX10_thereTrouble_0 : decode cX10_thereTrouble 0 = .ok (.aload_n 0, 1) := by decide +kernel
theorem dX10_thereTrouble_1 : decode cX10_thereTrouble 1 = .ok (.iload_n 1, 1) := by decide +kernel
theorem dX10_thereTrouble_10 : decode cX10_thereTrouble 10 = .ok (.aload_n 0, 1) := by decide +kernel
theorem dX10_thereTrouble_11 : decode cX10_thereTrouble 11 = .ok (.getfield 29, 3) := by decide +kernel
theorem dX10_thereTrouble_14 : decode cX10_thereTrouble 14 = .ok (.getfield 125, 3) := by decide +kernel
theorem dX10_thereTrouble_17 : decode cX10_thereTrouble 17 = .ok (.iload_n 1, 1) := by decide +kernel
theorem dX10_thereTrouble_18 : decode cX10_thereTrouble 18 = .ok (.iaload, 1) := by decide +kernel
theorem dX10_thereTrouble_19 : decode cX10_thereTrouble 19 = .ok (.ifCond .eq 7, 3) := by decide +kernel
theorem dX10_thereTrouble_2 : decode cX10_thereTrouble 2 = .ok (.invokevirtual 102, 3) := by decide +kernel
theorem dX10_thereTrouble_22 : decode cX10_thereTrouble 22 = .ok (.iconst 5, 1) := by decide +kernel
theorem dX10_thereTrouble_23 : decode cX10_thereTrouble 23 = .ok (.goto 4, 3) := by decide +kernel
theorem dX10_thereTrouble_26 : decode cX10_thereTrouble 26 = .ok (.iload_n 2, 1) := by decide +kernel
theorem dX10_thereTrouble_27 : decode cX10_thereTrouble 27 = .ok (.ireturn, 1) := by decide +kernel
theorem dX10_thereTrouble_5 : decode cX10_thereTrouble 5 = .ok (.istore_n 2, 1) := by decide +kernel
theorem dX10_thereTrouble_6 : decode cX10_thereTrouble 6 = .ok (.iload_n 2, 1) := by decide +kernel
theorem dX10_thereTrouble_7 : decode cX10_thereTrouble 7 = .ok (.ifCond .ne 19, 3) := by decide +kernel
def vfX10_thereTrouble : List Cond := List.cons (.code yX10_thereTrouble cX10_thereTrouble 3 (some .int)) (apW [.methodLink RX10 102 yX10_answerTrouble, .instanceMethod yX10_answerTrouble, .selects RX10 yX10_answerTrouble yX10_answerTrouble, .initialized RX10, .fieldLink RX10 29 "HookPier" "now" "LHookPier$Now;", .fieldLink RX10 125 "HookPier$Now" "stage" "[I"] (apW wsX100 (apW wsX40 (vfX10_answerTrouble))))
theorem ifX10_thereTrouble_X10 : ∀ w ∈ wsX100, w ∈ vfX10_thereTrouble := fun _ h => (List.mem_cons_of_mem _ (List.mem_append_right _ (List.mem_append_left _ h)))
theorem ifX10_thereTrouble_X4 : ∀ w ∈ wsX40, w ∈ vfX10_thereTrouble := fun _ h => (List.mem_cons_of_mem _ (List.mem_append_right _ (List.mem_append_right _ (List.mem_append_left _ h))))
theorem qfX10_thereTrouble : Good vfX10_thereTrouble := gd_cons (by decide +kernel) (gd_app (gd_dec (by decide +kernel) : Good [.methodLink RX10 102 yX10_answerTrouble, .instanceMethod yX10_answerTrouble, .selects RX10 yX10_answerTrouble yX10_answerTrouble, .initialized RX10, .fieldLink RX10 29 "HookPier" "now" "LHookPier$Now;", .fieldLink RX10 125 "HookPier$Now" "stage" "[I"]) (gd_app qsX10 (gd_app qsX4 qfX10_answerTrouble)))
theorem gfX10_thereTrouble_0 : GoodIn vfX10_thereTrouble (wsV RX10 102 RX10 yX10_answerTrouble vfX10_answerTrouble) := goodIn_app (goodIn_r [.methodLink RX10 102 yX10_answerTrouble, .instanceMethod yX10_answerTrouble, .selects RX10 yX10_answerTrouble yX10_answerTrouble, .initialized RX10] [1, 2, 3, 4] rfl (by decide +kernel)) (goodIn_m (fun _ h => (List.mem_cons_of_mem _ (List.mem_append_right _ (List.mem_append_right _ (List.mem_append_right _ h))))) qfX10_answerTrouble)
set_option maxHeartbeats 2000000 in
set_option maxRecDepth 100000 in
theorem kfX10_thereTrouble (l : Launch) (dC : Nat → ClassId) (dI : Nat → Nat → Nat) (a0 : Nat) (k1 : Int32) (a2 : Nat) (a3 : Nat) (up : Nat → Nat) (kp : Nat → ClassId) (un : Nat → Nat) (kn : Nat → ClassId) (g8 : Value) (g9 : Value) (g10 : Value) (g11 : Value) (g12 : Value) (g13 : Value) (g14 : Value) (g15 : Value) (p_p : TX6_p) (n_n : TX4_n) (sz : Nat) (out : Int32) (h : f_X10_thereTrouble k1 p_p n_n = some out) : Met l yX10_thereTrouble vfX10_thereTrouble ({ frames := 3, cells := 0, slots := 0, locals := 64 }) (PC (dC, dI) [.ref a0, .int k1] sz ((a0, .inr (7, [.ref a2, g8, g9, .ref a3, g10, g11, g12, g13, g14, g15])) :: bX6 a2 up kp p_p (bX4 a3 un kn n_n [])) (tX6 kp (tX4 kn ([])))) (va_Qi (S := Unit) (fun (r : Int32) _ => r = out) (fun _ t => BC (dC, dI) (va_A ((a0, .inr (7, [.ref a2, g8, g9, .ref a3, g10, g11, g12, g13, g14, g15])) :: bX6 a2 up kp p_p (bX4 a3 un kn n_n [])) sz) ((a0, .inr (7, [.ref a2, g8, g9, .ref a3, g10, g11, g12, g13, g14, g15])) :: bX6 a2 up kp p_p (bX4 a3 un kn n_n [])) [] t) (va_A ((a0, .inr (7, [.ref a2, g8, g9, .ref a3, g10, g11, g12, g13, g14, g15])) :: bX6 a2 up kp p_p (bX4 a3 un kn n_n [])) sz)) 0 0 (va_A ((a0, .inr (7, [.ref a2, g8, g9, .ref a3, g10, g11, g12, g13, g14, g15])) :: bX6 a2 up kp p_p (bX4 a3 un kn n_n [])) sz) := by
  refine Met.ofW (cc := cX10_thereTrouble) (maxL := 3) (ret := (some .int)) (by decide) rfl ?_
  intro p e s m args below meth c s₁ B0 hml hv
  obtain ⟨rfl, hsz, hP, hK, hD0, hN⟩ := hv
  have hx := B0.exec
  have hb := B0.bytes
  have hr := B0.returns
  have hts := atoms_spec (ws := vfX10_thereTrouble) B0.pre
  have hown : s.vm.findClass RX10 = some m.cls := findClass_of_methodNamed B0.named
  have hlocks := B0.notSynchronized
  subst hsz
  have hD := hD0.self (sz := s.heap.size)
  generalize hAe : va_A ((a0, .inr (7, [.ref a2, g8, g9, .ref a3, g10, g11, g12, g13, g14, g15])) :: bX6 a2 up kp p_p (bX4 a3 un kn n_n [])) s.heap.size = A at hD ⊢
  have hA : ∀ q : Nat, s.heap.size ≤ q → A q := fun q h => by rw [← hAe]; exact Or.inr h
  have hS : va_S A s.heap s.heap [] := va_S.rf
  have hP : va_P (dC, dI) vwCl ((a0, .inr (7, [.ref a2, g8, g9, .ref a3, g10, g11, g12, g13, g14, g15])) :: bX6 a2 up kp p_p (bX4 a3 un kn n_n [])) s.heap := hP
  have hl := lv_entry ([.ref a0, .int k1]) (n := 3) (Nat.le_of_ble_eq_true rfl)
  rw [lg_entry_eq]
  generalize (lg_sl ([.ref a0, .int k1]) ++ List.replicate (3 - (lg_sl ([.ref a0, .int k1])).length) Slot.unset).toArray = ls at hl ⊢
  have hl : lv_has ls 3 [(0, .ref a0), (1, .int k1)] := hl
  refine W_q (fun QQ hQQ => ?_)
  rw [f_X10_thereTrouble] at h
  refine lv_aload_n hx hb dX10_thereTrouble_0 rfl (lv_at hl 0 rfl) ?_
  refine lv_iload_n hx hb dX10_thereTrouble_1 rfl (lv_at hl 1 rfl) ?_
  obtain ⟨o2, eo2⟩ : ∃ o, o = f_X10_answerTrouble k1 p_p := ⟨_, rfl⟩
  have h := nm_of h o2 eo2
  refine cl_i (wc := ((a0, .inr (7, [.ref a2, g8, g9, .ref a3, g10, g11, g12, g13, g14, g15])) :: bX6 a2 up kp p_p [])) (wr := (bX4 a3 un kn n_n [])) (va_runV (As := [.int k1]) (rest := []) ⟨hx, hb, hml, hown, hts⟩ (kfX10_answerTrouble l dC dI a0 k1 a2 up kp (g8) (g9) (.ref a3) (g10) (g11) (g12) (g13) (g14) (g15) p_p s.heap.size o2 eo2.symm) (cwV 1 hts gfX10_thereTrouble_0 rfl rfl rfl (by decide +kernel) ⟨(Nat.le_of_ble_eq_true rfl), (Nat.le_of_ble_eq_true rfl)⟩) (PV (hP.sub (ws' := ((a0, .inr (7, [.ref a2, g8, g9, .ref a3, g10, g11, g12, g13, g14, g15])) :: bX6 a2 up kp p_p [])) [0, 1, 2, 3, 4, 5, 6, 7, 8, 9, 10] rfl) (hK.sub (tys' := (tX6 kp ([]))) [0, 1, 2, 3, 4, 5, 6, 7, 8] rfl) (hD.sub (ws' := ((a0, .inr (7, [.ref a2, g8, g9, .ref a3, g10, g11, g12, g13, g14, g15])) :: bX6 a2 up kp p_p [])) [0, 1, 2, 3, 4, 5, 6, 7, 8, 9, 10] (by decide) rfl) hN 0 rfl rfl) rfl rfl hl.1 rfl (lv_room (Nat.le_of_ble_eq_true rfl)) dX10_thereTrouble_2 ⟨(Nat.le_of_ble_eq_true rfl), (Nat.le_of_ble_eq_true rfl)⟩) hP hD hK hS hA [0, 1, 2, 3, 4, 5, 6, 7, 8, 9, 10] [11, 12, 13, 14, 15] rfl rfl (by decide) (by decide) (fun r2 _ H locs hw hP hD _ hS => ?_)
  obtain rfl := hw.symm
  have hP : va_P (dC, dI) vwCl (bX4 a3 un kn n_n ((a0, .inr (7, [.ref a2, g8, g9, .ref a3, g10, g11, g12, g13, g14, g15])) :: bX6 a2 up kp p_p [])) H := hP
  have hD : va_D A (bX4 a3 un kn n_n ((a0, .inr (7, [.ref a2, g8, g9, .ref a3, g10, g11, g12, g13, g14, g15])) :: bX6 a2 up kp p_p [])) := hD
  refine lv_istore_n (lv' := [(2, .int o2), (0, .ref a0), (1, .int k1)]) hx hb dX10_thereTrouble_5 rfl hl (by decide) rfl (fun ls hl => ?_)
  refine lv_iload_n hx hb dX10_thereTrouble_6 rfl (lv_at hl 0 rfl) ?_
  have J26 : ∀ (H : Heap) (locs : List Loc) (ls : Array Slot), f_X10_thereTrouble_J26 o2 = some out → va_P (dC, dI) vwCl (bX4 a3 un kn n_n ((a0, .inr (7, [.ref a2, g8, g9, .ref a3, g10, g11, g12, g13, g14, g15])) :: bX6 a2 up kp p_p [])) H → va_D A (bX4 a3 un kn n_n ((a0, .inr (7, [.ref a2, g8, g9, .ref a3, g10, g11, g12, g13, g14, g15])) :: bX6 a2 up kp p_p [])) → va_S A s.heap H locs → lv_has ls 3 [(2, .int o2)] → W p l e (headSpec vfX10_thereTrouble { frames := 3, cells := 0, slots := 0, locals := 64 }).room s m ([.ref a0, .int k1]).toArray below meth c H locs 0 0 QQ (F0 m 26 ls []) := by
    intro  H locs ls h  hP hD hS hl
    rw [f_X10_thereTrouble_J26] at h
    refine lv_iload_n hx hb dX10_thereTrouble_26 rfl (lv_at hl 0 rfl) ?_
    obtain rfl := Option.some.inj h
    have hP9 := hP.sub (ws' := ((a0, .inr (7, [.ref a2, g8, g9, .ref a3, g10, g11, g12, g13, g14, g15])) :: bX6 a2 up kp p_p (bX4 a3 un kn n_n []))) [5, 6, 7, 8, 9, 10, 11, 12, 13, 14, 15, 0, 1, 2, 3, 4] rfl
    have hD9 := hD.sub (ws' := ((a0, .inr (7, [.ref a2, g8, g9, .ref a3, g10, g11, g12, g13, g14, g15])) :: bX6 a2 up kp p_p (bX4 a3 un kn n_n []))) [5, 6, 7, 8, 9, 10, 11, 12, 13, 14, 15, 0, 1, 2, 3, 4] (by decide) rfl
    have hK9 := hK.sub (tys' := []) [] rfl
    rw [hQQ]
    exact W.iret (v := o2) hx hb hr (fun t ht hW => ⟨⟨o2, (), rfl, rfl, by rw [ht]; exact hP9, va_K.moved hW.alike hK9, hD9⟩, hS.F ht⟩) hS.2.2 dX10_thereTrouble_27
  refine lv_if_ne (tgt := 26) hx hb dX10_thereTrouble_7 (by decide) (fun c7 => ?_) (fun c7 => ?_)
  · have h := (if_neg c7).symm.trans h
    exact J26  H _ ls h  hP hD hS (lv_sub hl [0] rfl)
  · have h := (if_pos c7).symm.trans h
    refine lv_aload_n hx hb dX10_thereTrouble_10 rfl (lv_at hl 1 rfl) ?_
    refine va_get (D := (dC, dI)) (ci := 7) (v := .ref a3) (C := RX10) (T := TX10) (N := 10) hx hb hts ifX10_thereTrouble_X10 hown hK hP 5 rfl rfl 3 (by decide) (hts (.fieldLink RX10 29 "HookPier" "now" "LHookPier$Now;") (List.mem_of_getElem? (i := 5) rfl)) (fun _ h9 => h9) rfl dX10_thereTrouble_11 ?_
    refine va_get (D := (dC, dI)) (ci := 3) (v := .ref (un 0)) (C := RX4) (T := TX4) (N := 7) hx hb hts ifX10_thereTrouble_X4 hown hK hP 0 rfl rfl 3 (by decide) (hts (.fieldLink RX10 125 "HookPier$Now" "stage" "[I") (List.mem_of_getElem? (i := 6) rfl)) (fun _ h9 => h9) rfl dX10_thereTrouble_14 ?_
    refine lv_iload_n hx hb dX10_thereTrouble_17 rfl (lv_at hl 2 rfl) ?_
    obtain ⟨hg18, h⟩ := gA_of h
    refine va_iald hx hb hK hP 1 9 rfl rfl hg18 dX10_thereTrouble_18 ?_
    refine lv_if_eq (tgt := 26) hx hb dX10_thereTrouble_19 (by decide) (fun c19 => ?_) (fun c19 => ?_)
    · have h := (if_pos c19).symm.trans h
      exact J26  H _ ls h  hP hD hS (lv_sub hl [0] rfl)
    · have h := (if_neg c19).symm.trans h
      refine lv_iconst (v := 5) hx hb dX10_thereTrouble_22 (by decide) ?_
      refine lv_goto (tgt := 27) hx hb dX10_thereTrouble_23 (by decide) ?_
      obtain rfl := Option.some.inj h
      have hP9 := hP.sub (ws' := ((a0, .inr (7, [.ref a2, g8, g9, .ref a3, g10, g11, g12, g13, g14, g15])) :: bX6 a2 up kp p_p (bX4 a3 un kn n_n []))) [5, 6, 7, 8, 9, 10, 11, 12, 13, 14, 15, 0, 1, 2, 3, 4] rfl
      have hD9 := hD.sub (ws' := ((a0, .inr (7, [.ref a2, g8, g9, .ref a3, g10, g11, g12, g13, g14, g15])) :: bX6 a2 up kp p_p (bX4 a3 un kn n_n []))) [5, 6, 7, 8, 9, 10, 11, 12, 13, 14, 15, 0, 1, 2, 3, 4] (by decide) rfl
      have hK9 := hK.sub (tys' := []) [] rfl
      rw [hQQ]
      exact W.iret (v := (5 : Int32)) hx hb hr (fun t ht hW => ⟨⟨(5 : Int32), (), rfl, rfl, by rw [ht]; exact hP9, va_K.moved hW.alike hK9, hD9⟩, hS.F ht⟩) hS.2.2 dX10_thereTrouble_27
theorem dX6_questionBound_0 : decode cX6_questionBound 0 = .ok (.bipush 100, 2) := by decide +kernel
theorem dX6_questionBound_2 : decode cX6_questionBound 2 = .ok (.aload_n 0, 1) := by decide +kernel
theorem dX6_questionBound_3 : decode cX6_questionBound 3 = .ok (.getfield 9, 3) := by decide +kernel
theorem dX6_questionBound_6 : decode cX6_questionBound 6 = .ok (.imul, 1) := by decide +kernel
theorem dX6_questionBound_7 : decode cX6_questionBound 7 = .ok (.ireturn, 1) := by decide +kernel
def vfX6_questionBound : List Cond := List.cons (.code yX6_questionBound cX6_questionBound 1 (some .int)) (apW [.fieldLink RX6 9 "HookPier$Plan" "spots" "I"] (wsX60))
theorem ifX6_questionBound_X6 : ∀ w ∈ wsX60, w ∈ vfX6_questionBound := fun _ h => (List.mem_cons_of_mem _ (List.mem_append_right _ h))
theorem qfX6_questionBound : Good vfX6_questionBound := gd_cons (by decide +kernel) (gd_app (gd_dec (by decide +kernel) : Good [.fieldLink RX6 9 "HookPier$Plan" "spots" "I"]) qsX6)
set_option maxHeartbeats 2000000 in
set_option maxRecDepth 100000 in
theorem kfX6_questionBound (l : Launch) (dC : Nat → ClassId) (dI : Nat → Nat → Nat) (a0 : Nat) (up : Nat → Nat) (kp : Nat → ClassId) (p_p : TX6_p) (sz : Nat) (out : Int32) (h : f_X6_questionBound p_p = out) : Met l yX6_questionBound vfX6_questionBound ({ frames := 0, cells := 0, slots := 0, locals := 0 }) (PC (dC, dI) [.ref a0] sz (bX6 a0 up kp p_p []) (tX6 kp ([]))) (va_Qi (S := Unit) (fun (r : Int32) _ => r = out) (fun _ t => BC (dC, dI) (va_A (bX6 a0 up kp p_p []) sz) (bX6 a0 up kp p_p []) [] t) (va_A (bX6 a0 up kp p_p []) sz)) 0 0 (va_A (bX6 a0 up kp p_p []) sz) := by
  refine Met.ofW (cc := cX6_questionBound) (maxL := 1) (ret := (some .int)) (by decide) rfl ?_
  intro p e s m args below meth c s₁ B0 hml hv
  obtain ⟨rfl, hsz, hP, hK, hD0, hN⟩ := hv
  have hx := B0.exec
  have hb := B0.bytes
  have hr := B0.returns
  have hts := atoms_spec (ws := vfX6_questionBound) B0.pre
  have hown : s.vm.findClass RX6 = some m.cls := findClass_of_methodNamed B0.named
  have hlocks := B0.notSynchronized
  subst hsz
  have hD := hD0.self (sz := s.heap.size)
  generalize hAe : va_A (bX6 a0 up kp p_p []) s.heap.size = A at hD ⊢
  have hA : ∀ q : Nat, s.heap.size ≤ q → A q := fun q h => by rw [← hAe]; exact Or.inr h
  have hS : va_S A s.heap s.heap [] := va_S.rf
  have hP : va_P (dC, dI) vwCl (bX6 a0 up kp p_p []) s.heap := hP
  have hl := lv_entry ([.ref a0]) (n := 1) (Nat.le_of_ble_eq_true rfl)
  rw [lg_entry_eq]
  generalize (lg_sl ([.ref a0]) ++ List.replicate (1 - (lg_sl ([.ref a0])).length) Slot.unset).toArray = ls at hl ⊢
  have hl : lv_has ls 1 [(0, .ref a0)] := hl
  refine W_q (fun QQ hQQ => ?_)
  rw [f_X6_questionBound] at h
  refine lv_bipush (v := 100) hx hb dX6_questionBound_0 (by decide) ?_
  refine lv_aload_n hx hb dX6_questionBound_2 rfl (lv_at hl 0 rfl) ?_
  refine va_get (D := (dC, dI)) (ci := 4) (v := .int p_p.1) (C := RX6) (T := TX6) (N := 18) hx hb hts ifX6_questionBound_X6 hown hK hP 0 rfl rfl 0 (by decide) (hts (.fieldLink RX6 9 "HookPier$Plan" "spots" "I") (List.mem_of_getElem? (i := 1) rfl)) (fun _ h9 => h9) rfl dX6_questionBound_3 ?_
  refine lv_imul hx hb dX6_questionBound_6 ?_
  obtain rfl := h
  have hP9 := hP.sub (ws' := (bX6 a0 up kp p_p [])) [0, 1, 2, 3, 4, 5, 6, 7, 8, 9] rfl
  have hD9 := hD.sub (ws' := (bX6 a0 up kp p_p [])) [0, 1, 2, 3, 4, 5, 6, 7, 8, 9] (by decide) rfl
  have hK9 := hK.sub (tys' := []) [] rfl
  rw [hQQ]
  exact W.iret (v := ((100 : Int32) * p_p.1)) hx hb hr (fun t ht hW => ⟨⟨((100 : Int32) * p_p.1), (), rfl, rfl, by rw [ht]; exact hP9, va_K.moved hW.alike hK9, hD9⟩, hS.F ht⟩) hS.2.2 dX6_questionBound_7
theorem dX6_hasQuestion_0 : decode cX6_hasQuestion 0 = .ok (.aload_n 0, 1) := by decide +kernel
theorem dX6_hasQuestion_1 : decode cX6_hasQuestion 1 = .ok (.iload_n 1, 1) := by decide +kernel
theorem dX6_hasQuestion_11 : decode cX6_hasQuestion 11 = .ok (.iload_n 1, 1) := by decide +kernel
theorem dX6_hasQuestion_12 : decode cX6_hasQuestion 12 = .ok (.invokestatic 80, 3) := by decide +kernel
theorem dX6_hasQuestion_15 : decode cX6_hasQuestion 15 = .ok (.iconst 1, 1) := by decide +kernel
theorem dX6_hasQuestion_16 : decode cX6_hasQuestion 16 = .ok (.aload_n 0, 1) := by decide +kernel
theorem dX6_hasQuestion_17 : decode cX6_hasQuestion 17 = .ok (.getfield 15, 3) := by decide +kernel
theorem dX6_hasQuestion_2 : decode cX6_hasQuestion 2 = .ok (.invokestatic 72, 3) := by decide +kernel
theorem dX6_hasQuestion_20 : decode cX6_hasQuestion 20 = .ok (.invokestatic 68, 3) := by decide +kernel
theorem dX6_hasQuestion_23 : decode cX6_hasQuestion 23 = .ok (.ifCond .eq 18, 3) := by decide +kernel
theorem dX6_hasQuestion_26 : decode cX6_hasQuestion 26 = .ok (.aload_n 0, 1) := by decide +kernel
theorem dX6_hasQuestion_27 : decode cX6_hasQuestion 27 = .ok (.iload_n 1, 1) := by decide +kernel
theorem dX6_hasQuestion_28 : decode cX6_hasQuestion 28 = .ok (.invokestatic 83, 3) := by decide +kernel
theorem dX6_hasQuestion_31 : decode cX6_hasQuestion 31 = .ok (.invokevirtual 86, 3) := by decide +kernel
theorem dX6_hasQuestion_34 : decode cX6_hasQuestion 34 = .ok (.ifCond .eq 7, 3) := by decide +kernel
theorem dX6_hasQuestion_37 : decode cX6_hasQuestion 37 = .ok (.iconst 1, 1) := by decide +kernel
theorem dX6_hasQuestion_38 : decode cX6_hasQuestion 38 = .ok (.goto 4, 3) := by decide +kernel
theorem dX6_hasQuestion_41 : decode cX6_hasQuestion 41 = .ok (.iconst 0, 1) := by decide +kernel
theorem dX6_hasQuestion_42 : decode cX6_hasQuestion 42 = .ok (.ireturn, 1) := by decide +kernel
theorem dX6_hasQuestion_5 : decode cX6_hasQuestion 5 = .ok (.invokevirtual 76, 3) := by decide +kernel
theorem dX6_hasQuestion_8 : decode cX6_hasQuestion 8 = .ok (.ifCond .eq 33, 3) := by decide +kernel
def vfX6_hasQuestion : List Cond := List.cons (.code yX6_hasQuestion cX6_hasQuestion 2 (some .boolean)) (apW [.initialized RX10, .static yX10_spotOf, .methodLink RX6 76 yX6_hasSpot, .instanceMethod yX6_hasSpot, .selects RX6 yX6_hasSpot yX6_hasSpot, .initialized RX6, .static yX10_fathomsOf, .fieldLink RX6 15 "HookPier$Plan" "deep" "I", .static yX10_within, .static yX10_baitOf, .methodLink RX6 86 yX6_hasBait, .instanceMethod yX6_hasBait, .selects RX6 yX6_hasBait yX6_hasBait] (apW wsX60 (apW vfX10_spotOf (apW vfX6_hasSpot (apW vfX10_fathomsOf (apW vfX10_within (apW vfX10_baitOf (vfX6_hasBait))))))))
theorem ifX6_hasQuestion_X6 : ∀ w ∈ wsX60, w ∈ vfX6_hasQuestion := fun _ h => (List.mem_cons_of_mem _ (List.mem_append_right _ (List.mem_append_left _ h)))
theorem qfX6_hasQuestion : Good vfX6_hasQuestion := gd_cons (by decide +kernel) (gd_app (gd_dec (by decide +kernel) : Good [.initialized RX10, .static yX10_spotOf, .methodLink RX6 76 yX6_hasSpot, .instanceMethod yX6_hasSpot, .selects RX6 yX6_hasSpot yX6_hasSpot, .initialized RX6, .static yX10_fathomsOf, .fieldLink RX6 15 "HookPier$Plan" "deep" "I", .static yX10_within, .static yX10_baitOf, .methodLink RX6 86 yX6_hasBait, .instanceMethod yX6_hasBait, .selects RX6 yX6_hasBait yX6_hasBait]) (gd_app qsX6 (gd_app qfX10_spotOf (gd_app qfX6_hasSpot (gd_app qfX10_fathomsOf (gd_app qfX10_within (gd_app qfX10_baitOf qfX6_hasBait)))))))
theorem gfX6_hasQuestion_0 : GoodIn vfX6_hasQuestion vfX10_spotOf := (goodIn_m (fun _ h => (List.mem_cons_of_mem _ (List.mem_append_right _ (List.mem_append_right _ (List.mem_append_left _ h))))) qfX10_spotOf)
theorem gfX6_hasQuestion_1 : GoodIn vfX6_hasQuestion (wsV RX6 76 RX6 yX6_hasSpot vfX6_hasSpot) := goodIn_app (goodIn_r [.methodLink RX6 76 yX6_hasSpot, .instanceMethod yX6_hasSpot, .selects RX6 yX6_hasSpot yX6_hasSpot, .initialized RX6] [3, 4, 5, 6] rfl (by decide +kernel)) (goodIn_m (fun _ h => (List.mem_cons_of_mem _ (List.mem_append_right _ (List.mem_append_right _ (List.mem_append_right _ (List.mem_append_left _ h)))))) qfX6_hasSpot)
theorem gfX6_hasQuestion_2 : GoodIn vfX6_hasQuestion vfX10_fathomsOf := (goodIn_m (fun _ h => (List.mem_cons_of_mem _ (List.mem_append_right _ (List.mem_append_right _ (List.mem_append_right _ (List.mem_append_right _ (List.mem_append_left _ h))))))) qfX10_fathomsOf)
theorem gfX6_hasQuestion_3 : GoodIn vfX6_hasQuestion vfX10_within := (goodIn_m (fun _ h => (List.mem_cons_of_mem _ (List.mem_append_right _ (List.mem_append_right _ (List.mem_append_right _ (List.mem_append_right _ (List.mem_append_right _ (List.mem_append_left _ h)))))))) qfX10_within)
theorem gfX6_hasQuestion_4 : GoodIn vfX6_hasQuestion vfX10_baitOf := (goodIn_m (fun _ h => (List.mem_cons_of_mem _ (List.mem_append_right _ (List.mem_append_right _ (List.mem_append_right _ (List.mem_append_right _ (List.mem_append_right _ (List.mem_append_right _ (List.mem_append_left _ h))))))))) qfX10_baitOf)
theorem gfX6_hasQuestion_5 : GoodIn vfX6_hasQuestion (wsV RX6 86 RX6 yX6_hasBait vfX6_hasBait) := goodIn_app (goodIn_r [.methodLink RX6 86 yX6_hasBait, .instanceMethod yX6_hasBait, .selects RX6 yX6_hasBait yX6_hasBait, .initialized RX6] [11, 12, 13, 6] rfl (by decide +kernel)) (goodIn_m (fun _ h => (List.mem_cons_of_mem _ (List.mem_append_right _ (List.mem_append_right _ (List.mem_append_right _ (List.mem_append_right _ (List.mem_append_right _ (List.mem_append_right _ (List.mem_append_right _ h))))))))) qfX6_hasBait)
set_option maxHeartbeats 2000000 in
set_option maxRecDepth 100000 in
theorem kfX6_hasQuestion (l : Launch) (dC : Nat → ClassId) (dI : Nat → Nat → Nat) (a0 : Nat) (k1 : Int32) (up : Nat → Nat) (kp : Nat → ClassId) (p_p : TX6_p) (sz : Nat) (out : Int32) (h : f_X6_hasQuestion k1 p_p = out) : Met l yX6_hasQuestion vfX6_hasQuestion ({ frames := 2, cells := 0, slots := 0, locals := 43 }) (PC (dC, dI) [.ref a0, .int k1] sz (bX6 a0 up kp p_p []) (tX6 kp ([]))) (va_Qi (S := Unit) (fun (r : Int32) _ => r = out ∧ (0 ≤ r.toInt ∧ r.toInt ≤ 1)) (fun _ t => BC (dC, dI) (va_A (bX6 a0 up kp p_p []) sz) (bX6 a0 up kp p_p []) [] t) (va_A (bX6 a0 up kp p_p []) sz)) 0 0 (va_A (bX6 a0 up kp p_p []) sz) := by
  refine Met.ofW (cc := cX6_hasQuestion) (maxL := 2) (ret := (some .boolean)) (by decide) rfl ?_
  intro p e s m args below meth c s₁ B0 hml hv
  obtain ⟨rfl, hsz, hP, hK, hD0, hN⟩ := hv
  have hx := B0.exec
  have hb := B0.bytes
  have hr := B0.returns
  have hts := atoms_spec (ws := vfX6_hasQuestion) B0.pre
  have hown : s.vm.findClass RX6 = some m.cls := findClass_of_methodNamed B0.named
  have hlocks := B0.notSynchronized
  subst hsz
  have hD := hD0.self (sz := s.heap.size)
  generalize hAe : va_A (bX6 a0 up kp p_p []) s.heap.size = A at hD ⊢
  have hA : ∀ q : Nat, s.heap.size ≤ q → A q := fun q h => by rw [← hAe]; exact Or.inr h
  have hS : va_S A s.heap s.heap [] := va_S.rf
  have hP : va_P (dC, dI) vwCl (bX6 a0 up kp p_p []) s.heap := hP
  have hl := lv_entry ([.ref a0, .int k1]) (n := 2) (Nat.le_of_ble_eq_true rfl)
  rw [lg_entry_eq]
  generalize (lg_sl ([.ref a0, .int k1]) ++ List.replicate (2 - (lg_sl ([.ref a0, .int k1])).length) Slot.unset).toArray = ls at hl ⊢
  have hl : lv_has ls 2 [(0, .ref a0), (1, .int k1)] := hl
  refine W_q (fun QQ hQQ => ?_)
  rw [f_X6_hasQuestion] at h
  refine lv_aload_n hx hb dX6_hasQuestion_0 rfl (lv_at hl 0 rfl) ?_
  refine lv_iload_n hx hb dX6_hasQuestion_1 rfl (lv_at hl 1 rfl) ?_
  obtain ⟨o2, eo2⟩ : ∃ o, o = f_X10_spotOf k1 := ⟨_, rfl⟩
  have h := nm_of h o2 eo2
  refine cl_i (wc := []) (wr := (bX6 a0 up kp p_p [])) (va_runSN (As := [.int k1]) (rest := [.ref a0]) ⟨hx, hb, hml, hown, hts⟩ (kfX10_spotOf l dC dI k1 s.heap.size o2 eo2.symm) ⟨va_cnB 1 hts gfX6_hasQuestion_0 rfl rfl rfl (hN.1 (.methodLinkNest RX6 72 yX10_spotOf "HookPier") (List.mem_of_getElem? (i := 12) rfl)) (hts (.initialized RX10) (List.mem_of_getElem? (i := 1) rfl)) (by decide +kernel) ⟨(Nat.le_of_ble_eq_true rfl), (Nat.le_of_ble_eq_true rfl)⟩, (hts (.static yX10_spotOf) (List.mem_of_getElem? (i := 2) rfl)), trivial⟩ (PS (hP.sub (ws' := []) [] rfl) (hK.sub (tys' := ([])) [] rfl) (hD.sub (ws' := []) [] (by decide) rfl) hN) rfl rfl hl.1 rfl (lv_room (Nat.le_of_ble_eq_true rfl)) dX6_hasQuestion_2 ⟨(Nat.le_of_ble_eq_true rfl), (Nat.le_of_ble_eq_true rfl)⟩) hP hD hK hS hA [] [0, 1, 2, 3, 4, 5, 6, 7, 8, 9] rfl rfl (by decide) (by decide) (fun r2 _ H locs hw hP hD _ hS => ?_)
  obtain rfl := hw.symm
  have hP : va_P (dC, dI) vwCl (bX6 a0 up kp p_p []) H := hP
  have hD : va_D A (bX6 a0 up kp p_p []) := hD
  obtain ⟨o5, eo5⟩ : ∃ o, o = f_X6_hasSpot o2 p_p := ⟨_, rfl⟩
  have h := nm_of h o5 eo5
  refine cl_i (wc := (bX6 a0 up kp p_p [])) (wr := []) (va_runV (As := [.int o2]) (rest := []) ⟨hx, hb, hml, hown, hts⟩ (kfX6_hasSpot l dC dI a0 o2 up kp p_p H.size o5 eo5.symm) (cwV 1 hts gfX6_hasQuestion_1 rfl rfl rfl (by decide +kernel) ⟨(Nat.le_of_ble_eq_true rfl), (Nat.le_of_ble_eq_true rfl)⟩) (PV (hP.sub (ws' := (bX6 a0 up kp p_p [])) [0, 1, 2, 3, 4, 5, 6, 7, 8, 9] rfl) (hK.sub (tys' := (tX6 kp ([]))) [0, 1, 2, 3, 4, 5, 6, 7, 8] rfl) (hD.sub (ws' := (bX6 a0 up kp p_p [])) [0, 1, 2, 3, 4, 5, 6, 7, 8, 9] (by decide) rfl) hN 0 rfl rfl) rfl rfl hl.1 rfl (lv_room (Nat.le_of_ble_eq_true rfl)) dX6_hasQuestion_5 ⟨(Nat.le_of_ble_eq_true rfl), (Nat.le_of_ble_eq_true rfl)⟩) hP hD hK hS hA [0, 1, 2, 3, 4, 5, 6, 7, 8, 9] [] rfl rfl (by decide) (by decide) (fun r5 _ H locs hw hP hD _ hS => ?_)
  obtain ⟨hw, br5⟩ := hw
  obtain rfl := hw.symm
  have hP : va_P (dC, dI) vwCl (bX6 a0 up kp p_p []) H := hP
  have hD : va_D A (bX6 a0 up kp p_p []) := hD
  refine lv_if_eq (tgt := 41) hx hb dX6_hasQuestion_8 (by decide) (fun c8 => ?_) (fun c8 => ?_)
  · have h := (if_pos c8).symm.trans h
    refine lv_iconst (v := 0) hx hb dX6_hasQuestion_41 (by decide) ?_
    obtain rfl := h
    have hP9 := hP.sub (ws' := (bX6 a0 up kp p_p [])) [0, 1, 2, 3, 4, 5, 6, 7, 8, 9] rfl
    have hD9 := hD.sub (ws' := (bX6 a0 up kp p_p [])) [0, 1, 2, 3, 4, 5, 6, 7, 8, 9] (by decide) rfl
    have hK9 := hK.sub (tys' := []) [] rfl
    rw [hQQ]
    exact W.zret (v := (0 : Int32)) hx hb hr rfl (fun t ht hW => ⟨⟨(0 : Int32), (), rfl, ⟨rfl, (by decide)⟩, by rw [ht]; exact hP9, va_K.moved hW.alike hK9, hD9⟩, hS.F ht⟩) hS.2.2 dX6_hasQuestion_42
  · have h := (if_neg c8).symm.trans h
    refine lv_iload_n hx hb dX6_hasQuestion_11 rfl (lv_at hl 1 rfl) ?_
    obtain ⟨o12, eo12⟩ : ∃ o, o = f_X10_fathomsOf k1 := ⟨_, rfl⟩
    have h := nm_of h o12 eo12
    refine cl_i (wc := []) (wr := (bX6 a0 up kp p_p [])) (va_runSN (As := [.int k1]) (rest := []) ⟨hx, hb, hml, hown, hts⟩ (kfX10_fathomsOf l dC dI k1 H.size o12 eo12.symm) ⟨va_cnB 1 hts gfX6_hasQuestion_2 rfl rfl rfl (hN.1 (.methodLinkNest RX6 80 yX10_fathomsOf "HookPier") (List.mem_of_getElem? (i := 14) rfl)) (hts (.initialized RX10) (List.mem_of_getElem? (i := 1) rfl)) (by decide +kernel) ⟨(Nat.le_of_ble_eq_true rfl), (Nat.le_of_ble_eq_true rfl)⟩, (hts (.static yX10_fathomsOf) (List.mem_of_getElem? (i := 7) rfl)), trivial⟩ (PS (hP.sub (ws' := []) [] rfl) (hK.sub (tys' := ([])) [] rfl) (hD.sub (ws' := []) [] (by decide) rfl) hN) rfl rfl hl.1 rfl (lv_room (Nat.le_of_ble_eq_true rfl)) dX6_hasQuestion_12 ⟨(Nat.le_of_ble_eq_true rfl), (Nat.le_of_ble_eq_true rfl)⟩) hP hD hK hS hA [] [0, 1, 2, 3, 4, 5, 6, 7, 8, 9] rfl rfl (by decide) (by decide) (fun r12 _ H locs hw hP hD _ hS => ?_)
    obtain rfl := hw.symm
    have hP : va_P (dC, dI) vwCl (bX6 a0 up kp p_p []) H := hP
    have hD : va_D A (bX6 a0 up kp p_p []) := hD
    refine lv_iconst (v := 1) hx hb dX6_hasQuestion_15 (by decide) ?_
    refine lv_aload_n hx hb dX6_hasQuestion_16 rfl (lv_at hl 0 rfl) ?_
    refine va_get (D := (dC, dI)) (ci := 4) (v := .int p_p.2.1) (C := RX6) (T := TX6) (N := 18) hx hb hts ifX6_hasQuestion_X6 hown hK hP 0 rfl rfl 1 (by decide) (hts (.fieldLink RX6 15 "HookPier$Plan" "deep" "I") (List.mem_of_getElem? (i := 8) rfl)) (fun _ h9 => h9) rfl dX6_hasQuestion_17 ?_
    obtain ⟨o20, eo20⟩ : ∃ o, o = f_X10_within o12 (1 : Int32) p_p.2.1 := ⟨_, rfl⟩
    have h := nm_of h o20 eo20
    refine cl_i (wc := []) (wr := (bX6 a0 up kp p_p [])) (va_runSN (As := [.int o12, .int 1, .int p_p.2.1]) (rest := []) ⟨hx, hb, hml, hown, hts⟩ (kfX10_within l dC dI o12 (1 : Int32) p_p.2.1 H.size o20 eo20.symm) ⟨va_cnB 3 hts gfX6_hasQuestion_3 rfl rfl rfl (hN.1 (.methodLinkNest RX6 68 yX10_within "HookPier") (List.mem_of_getElem? (i := 10) rfl)) (hts (.initialized RX10) (List.mem_of_getElem? (i := 1) rfl)) (by decide +kernel) ⟨(Nat.le_of_ble_eq_true rfl), (Nat.le_of_ble_eq_true rfl)⟩, (hts (.static yX10_within) (List.mem_of_getElem? (i := 9) rfl)), trivial⟩ (PS (hP.sub (ws' := []) [] rfl) (hK.sub (tys' := ([])) [] rfl) (hD.sub (ws' := []) [] (by decide) rfl) hN) rfl rfl hl.1 rfl (lv_room (Nat.le_of_ble_eq_true rfl)) dX6_hasQuestion_20 ⟨(Nat.le_of_ble_eq_true rfl), (Nat.le_of_ble_eq_true rfl)⟩) hP hD hK hS hA [] [0, 1, 2, 3, 4, 5, 6, 7, 8, 9] rfl rfl (by decide) (by decide) (fun r20 _ H locs hw hP hD _ hS => ?_)
    obtain ⟨hw, br20⟩ := hw
    obtain rfl := hw.symm
    have hP : va_P (dC, dI) vwCl (bX6 a0 up kp p_p []) H := hP
    have hD : va_D A (bX6 a0 up kp p_p []) := hD
    refine lv_if_eq (tgt := 41) hx hb dX6_hasQuestion_23 (by decide) (fun c23 => ?_) (fun c23 => ?_)
    · have h := (if_pos c23).symm.trans h
      refine lv_iconst (v := 0) hx hb dX6_hasQuestion_41 (by decide) ?_
      obtain rfl := h
      have hP9 := hP.sub (ws' := (bX6 a0 up kp p_p [])) [0, 1, 2, 3, 4, 5, 6, 7, 8, 9] rfl
      have hD9 := hD.sub (ws' := (bX6 a0 up kp p_p [])) [0, 1, 2, 3, 4, 5, 6, 7, 8, 9] (by decide) rfl
      have hK9 := hK.sub (tys' := []) [] rfl
      rw [hQQ]
      exact W.zret (v := (0 : Int32)) hx hb hr rfl (fun t ht hW => ⟨⟨(0 : Int32), (), rfl, ⟨rfl, (by decide)⟩, by rw [ht]; exact hP9, va_K.moved hW.alike hK9, hD9⟩, hS.F ht⟩) hS.2.2 dX6_hasQuestion_42
    · have h := (if_neg c23).symm.trans h
      refine lv_aload_n hx hb dX6_hasQuestion_26 rfl (lv_at hl 0 rfl) ?_
      refine lv_iload_n hx hb dX6_hasQuestion_27 rfl (lv_at hl 1 rfl) ?_
      obtain ⟨o28, eo28⟩ : ∃ o, o = f_X10_baitOf k1 := ⟨_, rfl⟩
      have h := nm_of h o28 eo28
      refine cl_i (wc := []) (wr := (bX6 a0 up kp p_p [])) (va_runSN (As := [.int k1]) (rest := [.ref a0]) ⟨hx, hb, hml, hown, hts⟩ (kfX10_baitOf l dC dI k1 H.size o28 eo28.symm) ⟨va_cnB 1 hts gfX6_hasQuestion_4 rfl rfl rfl (hN.1 (.methodLinkNest RX6 83 yX10_baitOf "HookPier") (List.mem_of_getElem? (i := 13) rfl)) (hts (.initialized RX10) (List.mem_of_getElem? (i := 1) rfl)) (by decide +kernel) ⟨(Nat.le_of_ble_eq_true rfl), (Nat.le_of_ble_eq_true rfl)⟩, (hts (.static yX10_baitOf) (List.mem_of_getElem? (i := 10) rfl)), trivial⟩ (PS (hP.sub (ws' := []) [] rfl) (hK.sub (tys' := ([])) [] rfl) (hD.sub (ws' := []) [] (by decide) rfl) hN) rfl rfl hl.1 rfl (lv_room (Nat.le_of_ble_eq_true rfl)) dX6_hasQuestion_28 ⟨(Nat.le_of_ble_eq_true rfl), (Nat.le_of_ble_eq_true rfl)⟩) hP hD hK hS hA [] [0, 1, 2, 3, 4, 5, 6, 7, 8, 9] rfl rfl (by decide) (by decide) (fun r28 _ H locs hw hP hD _ hS => ?_)
      obtain rfl := hw.symm
      have hP : va_P (dC, dI) vwCl (bX6 a0 up kp p_p []) H := hP
      have hD : va_D A (bX6 a0 up kp p_p []) := hD
      obtain ⟨o31, eo31⟩ : ∃ o, o = f_X6_hasBait o28 p_p := ⟨_, rfl⟩
      have h := nm_of h o31 eo31
      refine cl_i (wc := (bX6 a0 up kp p_p [])) (wr := []) (va_runV (As := [.int o28]) (rest := []) ⟨hx, hb, hml, hown, hts⟩ (kfX6_hasBait l dC dI a0 o28 up kp p_p H.size o31 eo31.symm) (cwV 1 hts gfX6_hasQuestion_5 rfl rfl rfl (by decide +kernel) ⟨(Nat.le_of_ble_eq_true rfl), (Nat.le_of_ble_eq_true rfl)⟩) (PV (hP.sub (ws' := (bX6 a0 up kp p_p [])) [0, 1, 2, 3, 4, 5, 6, 7, 8, 9] rfl) (hK.sub (tys' := (tX6 kp ([]))) [0, 1, 2, 3, 4, 5, 6, 7, 8] rfl) (hD.sub (ws' := (bX6 a0 up kp p_p [])) [0, 1, 2, 3, 4, 5, 6, 7, 8, 9] (by decide) rfl) hN 0 rfl rfl) rfl rfl hl.1 rfl (lv_room (Nat.le_of_ble_eq_true rfl)) dX6_hasQuestion_31 ⟨(Nat.le_of_ble_eq_true rfl), (Nat.le_of_ble_eq_true rfl)⟩) hP hD hK hS hA [0, 1, 2, 3, 4, 5, 6, 7, 8, 9] [] rfl rfl (by decide) (by decide) (fun r31 _ H locs hw hP hD _ hS => ?_)
      obtain ⟨hw, br31⟩ := hw
      obtain rfl := hw.symm
      have hP : va_P (dC, dI) vwCl (bX6 a0 up kp p_p []) H := hP
      have hD : va_D A (bX6 a0 up kp p_p []) := hD
      refine lv_if_eq (tgt := 41) hx hb dX6_hasQuestion_34 (by decide) (fun c34 => ?_) (fun c34 => ?_)
      · have h := (if_pos c34).symm.trans h
        refine lv_iconst (v := 0) hx hb dX6_hasQuestion_41 (by decide) ?_
        obtain rfl := h
        have hP9 := hP.sub (ws' := (bX6 a0 up kp p_p [])) [0, 1, 2, 3, 4, 5, 6, 7, 8, 9] rfl
        have hD9 := hD.sub (ws' := (bX6 a0 up kp p_p [])) [0, 1, 2, 3, 4, 5, 6, 7, 8, 9] (by decide) rfl
        have hK9 := hK.sub (tys' := []) [] rfl
        rw [hQQ]
        exact W.zret (v := (0 : Int32)) hx hb hr rfl (fun t ht hW => ⟨⟨(0 : Int32), (), rfl, ⟨rfl, (by decide)⟩, by rw [ht]; exact hP9, va_K.moved hW.alike hK9, hD9⟩, hS.F ht⟩) hS.2.2 dX6_hasQuestion_42
      · have h := (if_neg c34).symm.trans h
        refine lv_iconst (v := 1) hx hb dX6_hasQuestion_37 (by decide) ?_
        refine lv_goto (tgt := 42) hx hb dX6_hasQuestion_38 (by decide) ?_
        obtain rfl := h
        have hP9 := hP.sub (ws' := (bX6 a0 up kp p_p [])) [0, 1, 2, 3, 4, 5, 6, 7, 8, 9] rfl
        have hD9 := hD.sub (ws' := (bX6 a0 up kp p_p [])) [0, 1, 2, 3, 4, 5, 6, 7, 8, 9] (by decide) rfl
        have hK9 := hK.sub (tys' := []) [] rfl
        rw [hQQ]
        exact W.zret (v := (1 : Int32)) hx hb hr rfl (fun t ht hW => ⟨⟨(1 : Int32), (), rfl, ⟨rfl, (by decide)⟩, by rw [ht]; exact hP9, va_K.moved hW.alike hK9, hD9⟩, hS.F ht⟩) hS.2.2 dX6_hasQuestion_42
theorem dX5_surestQuestion_0 : decode cX5_surestQuestion 0 = .ok (.bipush (-2), 2) := by decide +kernel
theorem dX5_surestQuestion_11 : decode cX5_surestQuestion 11 = .ok (.aload_n 0, 1) := by decide +kernel
theorem dX5_surestQuestion_12 : decode cX5_surestQuestion 12 = .ok (.invokevirtual 41, 3) := by decide +kernel
theorem dX5_surestQuestion_15 : decode cX5_surestQuestion 15 = .ok (.if_icmp .ge 47, 3) := by decide +kernel
theorem dX5_surestQuestion_18 : decode cX5_surestQuestion 18 = .ok (.aload_n 0, 1) := by decide +kernel
theorem dX5_surestQuestion_19 : decode cX5_surestQuestion 19 = .ok (.iload 6, 2) := by decide +kernel
theorem dX5_surestQuestion_2 : decode cX5_surestQuestion 2 = .ok (.istore_n 3, 1) := by decide +kernel
theorem dX5_surestQuestion_21 : decode cX5_surestQuestion 21 = .ok (.invokevirtual 45, 3) := by decide +kernel
theorem dX5_surestQuestion_24 : decode cX5_surestQuestion 24 = .ok (.ifCond .eq 14, 3) := by decide +kernel
theorem dX5_surestQuestion_27 : decode cX5_surestQuestion 27 = .ok (.aload_n 0, 1) := by decide +kernel
theorem dX5_surestQuestion_28 : decode cX5_surestQuestion 28 = .ok (.aload_n 1, 1) := by decide +kernel
theorem dX5_surestQuestion_29 : decode cX5_surestQuestion 29 = .ok (.iload_n 2, 1) := by decide +kernel
theorem dX5_surestQuestion_3 : decode cX5_surestQuestion 3 = .ok (.lconst 0, 1) := by decide +kernel
theorem dX5_surestQuestion_30 : decode cX5_surestQuestion 30 = .ok (.iload 6, 2) := by decide +kernel
theorem dX5_surestQuestion_32 : decode cX5_surestQuestion 32 = .ok (.invokestatic 35, 3) := by decide +kernel
theorem dX5_surestQuestion_35 : decode cX5_surestQuestion 35 = .ok (.goto 4, 3) := by decide +kernel
theorem dX5_surestQuestion_38 : decode cX5_surestQuestion 38 = .ok (.lconst 0, 1) := by decide +kernel
theorem dX5_surestQuestion_39 : decode cX5_surestQuestion 39 = .ok (.lstore 7, 2) := by decide +kernel
theorem dX5_surestQuestion_4 : decode cX5_surestQuestion 4 = .ok (.lstore 4, 2) := by decide +kernel
theorem dX5_surestQuestion_41 : decode cX5_surestQuestion 41 = .ok (.lload 7, 2) := by decide +kernel
theorem dX5_surestQuestion_43 : decode cX5_surestQuestion 43 = .ok (.lload 4, 2) := by decide +kernel
theorem dX5_surestQuestion_45 : decode cX5_surestQuestion 45 = .ok (.lcmp, 1) := by decide +kernel
theorem dX5_surestQuestion_46 : decode cX5_surestQuestion 46 = .ok (.ifCond .le 10, 3) := by decide +kernel
theorem dX5_surestQuestion_49 : decode cX5_surestQuestion 49 = .ok (.lload 7, 2) := by decide +kernel
theorem dX5_surestQuestion_51 : decode cX5_surestQuestion 51 = .ok (.lstore 4, 2) := by decide +kernel
theorem dX5_surestQuestion_53 : decode cX5_surestQuestion 53 = .ok (.iload 6, 2) := by decide +kernel
theorem dX5_surestQuestion_55 : decode cX5_surestQuestion 55 = .ok (.istore_n 3, 1) := by decide +kernel
theorem dX5_surestQuestion_56 : decode cX5_surestQuestion 56 = .ok (.iinc 6 1, 3) := by decide +kernel
theorem dX5_surestQuestion_59 : decode cX5_surestQuestion 59 = .ok (.goto (-50), 3) := by decide +kernel
theorem dX5_surestQuestion_6 : decode cX5_surestQuestion 6 = .ok (.iconst 0, 1) := by decide +kernel
theorem dX5_surestQuestion_62 : decode cX5_surestQuestion 62 = .ok (.iload_n 3, 1) := by decide +kernel
theorem dX5_surestQuestion_63 : decode cX5_surestQuestion 63 = .ok (.ireturn, 1) := by decide +kernel
theorem dX5_surestQuestion_7 : decode cX5_surestQuestion 7 = .ok (.istore 6, 2) := by decide +kernel
theorem dX5_surestQuestion_9 : decode cX5_surestQuestion 9 = .ok (.iload 6, 2) := by decide +kernel
def vfX5_surestQuestion : List Cond := List.cons (.code yX5_surestQuestion cX5_surestQuestion 9 (some .int)) (apW [.methodLink RX5 41 yX6_questionBound, .instanceMethod yX6_questionBound, .selects RX6 yX6_questionBound yX6_questionBound, .initialized RX6, .methodLink RX5 45 yX6_hasQuestion, .instanceMethod yX6_hasQuestion, .selects RX6 yX6_hasQuestion yX6_hasQuestion, .methodLink RX5 35 yX5_chance, .static yX5_chance, .initialized RX5] (apW vfX6_questionBound (apW vfX6_hasQuestion (vfX5_chance))))
theorem qfX5_surestQuestion : Good vfX5_surestQuestion := gd_cons (by decide +kernel) (gd_app (gd_dec (by decide +kernel) : Good [.methodLink RX5 41 yX6_questionBound, .instanceMethod yX6_questionBound, .selects RX6 yX6_questionBound yX6_questionBound, .initialized RX6, .methodLink RX5 45 yX6_hasQuestion, .instanceMethod yX6_hasQuestion, .selects RX6 yX6_hasQuestion yX6_hasQuestion, .methodLink RX5 35 yX5_chance, .static yX5_chance, .initialized RX5]) (gd_app qfX6_questionBound (gd_app qfX6_hasQuestion qfX5_chance)))
theorem gfX5_surestQuestion_0 : GoodIn vfX5_surestQuestion (wsV RX5 41 RX6 yX6_questionBound vfX6_questionBound) := goodIn_app (goodIn_r [.methodLink RX5 41 yX6_questionBound, .instanceMethod yX6_questionBound, .selects RX6 yX6_questionBound yX6_questionBound, .initialized RX6] [1, 2, 3, 4] rfl (by decide +kernel)) (goodIn_m (fun _ h => (List.mem_cons_of_mem _ (List.mem_append_right _ (List.mem_append_left _ h)))) qfX6_questionBound)
theorem gfX5_surestQuestion_1 : GoodIn vfX5_surestQuestion (wsV RX5 45 RX6 yX6_hasQuestion vfX6_hasQuestion) := goodIn_app (goodIn_r [.methodLink RX5 45 yX6_hasQuestion, .instanceMethod yX6_hasQuestion, .selects RX6 yX6_hasQuestion yX6_hasQuestion, .initialized RX6] [5, 6, 7, 4] rfl (by decide +kernel)) (goodIn_m (fun _ h => (List.mem_cons_of_mem _ (List.mem_append_right _ (List.mem_append_right _ (List.mem_append_left _ h))))) qfX6_hasQuestion)
theorem gfX5_surestQuestion_2 : GoodIn vfX5_surestQuestion (va_wsS RX5 35 yX5_chance vfX5_chance) := goodIn_app (goodIn_r [.methodLink RX5 35 yX5_chance, .static yX5_chance, .initialized RX5] [8, 9, 10] rfl (by decide +kernel)) (goodIn_m (fun _ h => (List.mem_cons_of_mem _ (List.mem_append_right _ (List.mem_append_right _ (List.mem_append_right _ h))))) qfX5_chance)
set_option maxHeartbeats 2000000 in
set_option maxRecDepth 100000 in
theorem kfX5_surestQuestion (l : Launch) (dC : Nat → ClassId) (dI : Nat → Nat → Nat) (a0 : Nat) (a1 : Nat) (k2 : Int32) (up : Nat → Nat) (kp : Nat → ClassId) (un : Nat → Nat) (kn : Nat → ClassId) (p_p : TX6_p) (n_n : TX4_n) (sz : Nat) (out : Int32) (h : f_X5_surestQuestion k2 p_p n_n = some out) : Met l yX5_surestQuestion vfX5_surestQuestion ({ frames := 4, cells := 0, slots := 0, locals := 95 }) (PC (dC, dI) [.ref a0, .ref a1, .int k2] sz (bX6 a0 up kp p_p (bX4 a1 un kn n_n [])) (tX6 kp (tX4 kn ([])))) (va_Qi (S := Unit) (fun (r : Int32) _ => r = out) (fun _ t => BC (dC, dI) (va_A (bX6 a0 up kp p_p (bX4 a1 un kn n_n [])) sz) (bX6 a0 up kp p_p (bX4 a1 un kn n_n [])) [] t) (va_A (bX6 a0 up kp p_p (bX4 a1 un kn n_n [])) sz)) 0 0 (va_A (bX6 a0 up kp p_p (bX4 a1 un kn n_n [])) sz) := by
  refine Met.ofW (cc := cX5_surestQuestion) (maxL := 9) (ret := (some .int)) (by decide) rfl ?_
  intro p e s m args below meth c s₁ B0 hml hv
  obtain ⟨rfl, hsz, hP, hK, hD0, hN⟩ := hv
  have hx := B0.exec
  have hb := B0.bytes
  have hr := B0.returns
  have hts := atoms_spec (ws := vfX5_surestQuestion) B0.pre
  have hown : s.vm.findClass RX5 = some m.cls := findClass_of_methodNamed B0.named
  have hlocks := B0.notSynchronized
  subst hsz
  have hD := hD0.self (sz := s.heap.size)
  generalize hAe : va_A (bX6 a0 up kp p_p (bX4 a1 un kn n_n [])) s.heap.size = A at hD ⊢
  have hA : ∀ q : Nat, s.heap.size ≤ q → A q := fun q h => by rw [← hAe]; exact Or.inr h
  have hS : va_S A s.heap s.heap [] := va_S.rf
  have hP : va_P (dC, dI) vwCl (bX6 a0 up kp p_p (bX4 a1 un kn n_n [])) s.heap := hP
  have hl := lv_entry ([.ref a0, .ref a1, .int k2]) (n := 9) (Nat.le_of_ble_eq_true rfl)
  rw [lg_entry_eq]
  generalize (lg_sl ([.ref a0, .ref a1, .int k2]) ++ List.replicate (9 - (lg_sl ([.ref a0, .ref a1, .int k2])).length) Slot.unset).toArray = ls at hl ⊢
  have hl : lv_has ls 9 [(0, .ref a0), (1, .ref a1), (2, .int k2)] := hl
  refine W_q (fun QQ hQQ => ?_)
  rw [f_X5_surestQuestion] at h
  refine lv_bipush (v := (-2)) hx hb dX5_surestQuestion_0 (by decide) ?_
  refine lv_istore_n (lv' := [(3, .int (-2)), (0, .ref a0), (1, .ref a1), (2, .int k2)]) hx hb dX5_surestQuestion_2 rfl hl (by decide) rfl (fun ls hl => ?_)
  refine lv_lconst (v := 0) hx hb dX5_surestQuestion_3 (by decide) ?_
  refine lv_lstore (lv' := [(4, .long 0), (3, .int (-2)), (0, .ref a0), (1, .ref a1), (2, .int k2)]) hx hb dX5_surestQuestion_4 hl (by decide) rfl (fun ls hl => ?_)
  refine lv_iconst (v := 0) hx hb dX5_surestQuestion_6 (by decide) ?_
  refine lv_istore (lv' := [(6, .int 0), (4, .long 0), (3, .int (-2)), (0, .ref a0), (1, .ref a1), (2, .int k2)]) hx hb dX5_surestQuestion_7 hl (by decide) rfl (fun ls hl => ?_)
  have L9 : ∀ (n9 : Nat) (v9_l6 : Int32) (v9_l4 : Int64) (v9_l3 : Int32) (H : Heap) (locs : List Loc) (ls : Array Slot), f_X5_surestQuestion_L9 k2 p_p n_n n9 v9_l6 v9_l4 v9_l3 = some out → va_P (dC, dI) vwCl (bX6 a0 up kp p_p (bX4 a1 un kn n_n [])) H → va_D A (bX6 a0 up kp p_p (bX4 a1 un kn n_n [])) → va_S A s.heap H locs → lv_has ls 9 [(6, .int v9_l6), (4, .long v9_l4), (3, .int v9_l3), (0, .ref a0), (1, .ref a1), (2, .int k2)] → W p l e (headSpec vfX5_surestQuestion { frames := 4, cells := 0, slots := 0, locals := 95 }).room s m ([.ref a0, .ref a1, .int k2]).toArray below meth c H locs 0 0 QQ (F0 m 9 ls []) := by
    intro n9
    induction n9 with
    | zero =>
      intro v9_l6 v9_l4 v9_l3 H locs ls h  _ _ _ _
      rw [f_X5_surestQuestion_L9] at h
      cases h
    | succ n9 ih9 =>
      intro v9_l6 v9_l4 v9_l3 H locs ls h  hP hD hS hl
      rw [f_X5_surestQuestion_L9] at h
      refine lv_iload hx hb dX5_surestQuestion_9 (lv_at hl 0 rfl) ?_
      refine lv_aload_n hx hb dX5_surestQuestion_11 rfl (lv_at hl 3 rfl) ?_
      obtain ⟨o12, eo12⟩ : ∃ o, o = f_X6_questionBound p_p := ⟨_, rfl⟩
      have h := nm_of h o12 eo12
      refine cl_i (wc := (bX6 a0 up kp p_p [])) (wr := (bX4 a1 un kn n_n [])) (va_runV (As := []) (rest := [.int v9_l6]) ⟨hx, hb, hml, hown, hts⟩ (kfX6_questionBound l dC dI a0 up kp p_p H.size o12 eo12.symm) (cwV 0 hts gfX5_surestQuestion_0 rfl rfl rfl (by decide +kernel) ⟨(Nat.le_of_ble_eq_true rfl), (Nat.le_of_ble_eq_true rfl)⟩) (PV (hP.sub (ws' := (bX6 a0 up kp p_p [])) [0, 1, 2, 3, 4, 5, 6, 7, 8, 9] rfl) (hK.sub (tys' := (tX6 kp ([]))) [0, 1, 2, 3, 4, 5, 6, 7, 8] rfl) (hD.sub (ws' := (bX6 a0 up kp p_p [])) [0, 1, 2, 3, 4, 5, 6, 7, 8, 9] (by decide) rfl) hN 0 rfl rfl) rfl rfl hl.1 rfl (lv_room (Nat.le_of_ble_eq_true rfl)) dX5_surestQuestion_12 ⟨(Nat.le_of_ble_eq_true rfl), (Nat.le_of_ble_eq_true rfl)⟩) hP hD hK hS hA [0, 1, 2, 3, 4, 5, 6, 7, 8, 9] [10, 11, 12, 13, 14] rfl rfl (by decide) (by decide) (fun r12 _ H locs hw hP hD _ hS => ?_)
      obtain rfl := hw.symm
      have hP : va_P (dC, dI) vwCl (bX4 a1 un kn n_n (bX6 a0 up kp p_p [])) H := hP
      have hD : va_D A (bX4 a1 un kn n_n (bX6 a0 up kp p_p [])) := hD
      refine lv_icmp_ge (tgt := 62) hx hb dX5_surestQuestion_15 (by decide) (fun c15 => ?_) (fun c15 => ?_)
      · have h := (if_pos c15).symm.trans h
        refine lv_iload_n hx hb dX5_surestQuestion_62 rfl (lv_at hl 2 rfl) ?_
        obtain rfl := Option.some.inj h
        have hP9 := hP.sub (ws' := (bX6 a0 up kp p_p (bX4 a1 un kn n_n []))) [5, 6, 7, 8, 9, 10, 11, 12, 13, 14, 0, 1, 2, 3, 4] rfl
        have hD9 := hD.sub (ws' := (bX6 a0 up kp p_p (bX4 a1 un kn n_n []))) [5, 6, 7, 8, 9, 10, 11, 12, 13, 14, 0, 1, 2, 3, 4] (by decide) rfl
        have hK9 := hK.sub (tys' := []) [] rfl
        rw [hQQ]
        exact W.iret (v := v9_l3) hx hb hr (fun t ht hW => ⟨⟨v9_l3, (), rfl, rfl, by rw [ht]; exact hP9, va_K.moved hW.alike hK9, hD9⟩, hS.F ht⟩) hS.2.2 dX5_surestQuestion_63
      · have h := (if_neg c15).symm.trans h
        refine lv_aload_n hx hb dX5_surestQuestion_18 rfl (lv_at hl 3 rfl) ?_
        refine lv_iload hx hb dX5_surestQuestion_19 (lv_at hl 0 rfl) ?_
        obtain ⟨o21, eo21⟩ : ∃ o, o = f_X6_hasQuestion v9_l6 p_p := ⟨_, rfl⟩
        have h := nm_of h o21 eo21
        refine cl_i (wc := (bX6 a0 up kp p_p [])) (wr := (bX4 a1 un kn n_n [])) (va_runV (As := [.int v9_l6]) (rest := []) ⟨hx, hb, hml, hown, hts⟩ (kfX6_hasQuestion l dC dI a0 v9_l6 up kp p_p H.size o21 eo21.symm) (cwV 1 hts gfX5_surestQuestion_1 rfl rfl rfl (by decide +kernel) ⟨(Nat.le_of_ble_eq_true rfl), (Nat.le_of_ble_eq_true rfl)⟩) (PV (hP.sub (ws' := (bX6 a0 up kp p_p [])) [5, 6, 7, 8, 9, 10, 11, 12, 13, 14] rfl) (hK.sub (tys' := (tX6 kp ([]))) [0, 1, 2, 3, 4, 5, 6, 7, 8] rfl) (hD.sub (ws' := (bX6 a0 up kp p_p [])) [5, 6, 7, 8, 9, 10, 11, 12, 13, 14] (by decide) rfl) hN 0 rfl rfl) rfl rfl hl.1 rfl (lv_room (Nat.le_of_ble_eq_true rfl)) dX5_surestQuestion_21 ⟨(Nat.le_of_ble_eq_true rfl), (Nat.le_of_ble_eq_true rfl)⟩) hP hD hK hS hA [5, 6, 7, 8, 9, 10, 11, 12, 13, 14] [0, 1, 2, 3, 4] rfl rfl (by decide) (by decide) (fun r21 _ H locs hw hP hD _ hS => ?_)
        obtain ⟨hw, br21⟩ := hw
        obtain rfl := hw.symm
        have hP : va_P (dC, dI) vwCl (bX4 a1 un kn n_n (bX6 a0 up kp p_p [])) H := hP
        have hD : va_D A (bX4 a1 un kn n_n (bX6 a0 up kp p_p [])) := hD
        have J39 : ∀ (v39_t0 : Int64) (H : Heap) (locs : List Loc) (ls : Array Slot), f_X5_surestQuestion_J39 (f_X5_surestQuestion_L9 k2 p_p n_n n9) v9_l3 v9_l4 v9_l6 v39_t0 = some out → va_P (dC, dI) vwCl (bX4 a1 un kn n_n (bX6 a0 up kp p_p [])) H → va_D A (bX4 a1 un kn n_n (bX6 a0 up kp p_p [])) → va_S A s.heap H locs → lv_has ls 9 [(6, .int v9_l6), (4, .long v9_l4), (3, .int v9_l3), (0, .ref a0), (1, .ref a1), (2, .int k2)] → W p l e (headSpec vfX5_surestQuestion { frames := 4, cells := 0, slots := 0, locals := 95 }).room s m ([.ref a0, .ref a1, .int k2]).toArray below meth c H locs 0 0 QQ (F0 m 39 ls [.long v39_t0]) := by
          intro v39_t0 H locs ls h  hP hD hS hl
          rw [f_X5_surestQuestion_J39] at h
          refine lv_lstore (lv' := [(7, .long v39_t0), (6, .int v9_l6), (4, .long v9_l4), (3, .int v9_l3), (0, .ref a0), (1, .ref a1), (2, .int k2)]) hx hb dX5_surestQuestion_39 hl (by decide) rfl (fun ls hl => ?_)
          refine lv_lload hx hb dX5_surestQuestion_41 (lv_at hl 0 rfl) ?_
          refine lv_lload hx hb dX5_surestQuestion_43 (lv_at hl 2 rfl) ?_
          refine W.lcmp hx hb dX5_surestQuestion_45 ?_
          have J56 : ∀ (v56_l4 : Int64) (v56_l3 : Int32) (H : Heap) (locs : List Loc) (ls : Array Slot), f_X5_surestQuestion_J56 (f_X5_surestQuestion_L9 k2 p_p n_n n9) v9_l6 v56_l4 v56_l3 = some out → va_P (dC, dI) vwCl (bX4 a1 un kn n_n (bX6 a0 up kp p_p [])) H → va_D A (bX4 a1 un kn n_n (bX6 a0 up kp p_p [])) → va_S A s.heap H locs → lv_has ls 9 [(6, .int v9_l6), (4, .long v56_l4), (3, .int v56_l3), (0, .ref a0), (1, .ref a1), (2, .int k2)] → W p l e (headSpec vfX5_surestQuestion { frames := 4, cells := 0, slots := 0, locals := 95 }).room s m ([.ref a0, .ref a1, .int k2]).toArray below meth c H locs 0 0 QQ (F0 m 56 ls []) := by
            intro v56_l4 v56_l3 H locs ls h  hP hD hS hl
            rw [f_X5_surestQuestion_J56] at h
            refine lv_iinc (v := (v9_l6 + (1 : Int32))) (lv' := [(6, .int (v9_l6 + (1 : Int32))), (4, .long v56_l4), (3, .int v56_l3), (0, .ref a0), (1, .ref a1), (2, .int k2)]) hx hb dX5_surestQuestion_56 hl (k := 0) rfl rfl (by decide) rfl (fun ls hl => ?_)
            refine lv_goto (tgt := 9) hx hb dX5_surestQuestion_59 (by decide) ?_
            exact ih9 (v9_l6 + (1 : Int32)) v56_l4 v56_l3 H _ ls h  (hP.sub (ws' := (bX6 a0 up kp p_p (bX4 a1 un kn n_n []))) [5, 6, 7, 8, 9, 10, 11, 12, 13, 14, 0, 1, 2, 3, 4] rfl) (hD.sub (ws' := (bX6 a0 up kp p_p (bX4 a1 un kn n_n []))) [5, 6, 7, 8, 9, 10, 11, 12, 13, 14, 0, 1, 2, 3, 4] (by decide) rfl) hS (lv_sub hl [0, 1, 2, 3, 4, 5] rfl)
          refine lv_if_le (tgt := 56) hx hb dX5_surestQuestion_46 (by decide) (fun c46 => ?_) (fun c46 => ?_)
          · have h := (if_pos c46).symm.trans h
            exact J56 v9_l4 v9_l3 H _ ls h  hP hD hS (lv_sub hl [1, 2, 3, 4, 5, 6] rfl)
          · have h := (if_neg c46).symm.trans h
            refine lv_lload hx hb dX5_surestQuestion_49 (lv_at hl 0 rfl) ?_
            refine lv_lstore (lv' := [(4, .long v39_t0), (7, .long v39_t0), (6, .int v9_l6), (3, .int v9_l3), (0, .ref a0), (1, .ref a1), (2, .int k2)]) hx hb dX5_surestQuestion_51 hl (by decide) rfl (fun ls hl => ?_)
            refine lv_iload hx hb dX5_surestQuestion_53 (lv_at hl 2 rfl) ?_
            refine lv_istore_n (lv' := [(3, .int v9_l6), (4, .long v39_t0), (7, .long v39_t0), (6, .int v9_l6), (0, .ref a0), (1, .ref a1), (2, .int k2)]) hx hb dX5_surestQuestion_55 rfl hl (by decide) rfl (fun ls hl => ?_)
            exact J56 v39_t0 v9_l6 H _ ls h  hP hD hS (lv_sub hl [3, 1, 0, 4, 5, 6] rfl)
        refine lv_if_eq (tgt := 38) hx hb dX5_surestQuestion_24 (by decide) (fun c24 => ?_) (fun c24 => ?_)
        · have h := (if_pos c24).symm.trans h
          refine lv_lconst (v := 0) hx hb dX5_surestQuestion_38 (by decide) ?_
          exact J39 (0 : Int64) H _ ls h  hP hD hS (lv_sub hl [0, 1, 2, 3, 4, 5] rfl)
        · have h := (if_neg c24).symm.trans h
          refine lv_aload_n hx hb dX5_surestQuestion_27 rfl (lv_at hl 3 rfl) ?_
          refine lv_aload_n hx hb dX5_surestQuestion_28 rfl (lv_at hl 4 rfl) ?_
          refine lv_iload_n hx hb dX5_surestQuestion_29 rfl (lv_at hl 5 rfl) ?_
          refine lv_iload hx hb dX5_surestQuestion_30 (lv_at hl 0 rfl) ?_
          obtain ⟨o32, eo32, h⟩ := bd_of h
          refine cl_l (wc := (bX6 a0 up kp p_p (bX4 a1 un kn n_n []))) (wr := []) (va_runS (As := [.ref a0, .ref a1, .int k2, .int v9_l6]) (rest := []) ⟨hx, hb, hml, hown, hts⟩ (kfX5_chance l dC dI a0 a1 k2 v9_l6 up kp un kn p_p n_n H.size o32 eo32) (va_cwS 4 hts gfX5_surestQuestion_2 rfl rfl rfl (by decide +kernel) ⟨(Nat.le_of_ble_eq_true rfl), (Nat.le_of_ble_eq_true rfl)⟩) (PS (hP.sub (ws' := (bX6 a0 up kp p_p (bX4 a1 un kn n_n []))) [5, 6, 7, 8, 9, 10, 11, 12, 13, 14, 0, 1, 2, 3, 4] rfl) (hK.sub (tys' := (tX6 kp (tX4 kn ([])))) [0, 1, 2, 3, 4, 5, 6, 7, 8, 9, 10, 11, 12] rfl) (hD.sub (ws' := (bX6 a0 up kp p_p (bX4 a1 un kn n_n []))) [5, 6, 7, 8, 9, 10, 11, 12, 13, 14, 0, 1, 2, 3, 4] (by decide) rfl) hN) rfl rfl hl.1 rfl (lv_room (Nat.le_of_ble_eq_true rfl)) dX5_surestQuestion_32 ⟨(Nat.le_of_ble_eq_true rfl), (Nat.le_of_ble_eq_true rfl)⟩) hP hD hK hS hA [5, 6, 7, 8, 9, 10, 11, 12, 13, 14, 0, 1, 2, 3, 4] [] rfl rfl (by decide) (by decide) (fun r32 _ H locs hw hP hD _ hS => ?_)
          obtain rfl := hw.symm
          have hP : va_P (dC, dI) vwCl (bX6 a0 up kp p_p (bX4 a1 un kn n_n [])) H := hP
          have hD : va_D A (bX6 a0 up kp p_p (bX4 a1 un kn n_n [])) := hD
          refine lv_goto (tgt := 39) hx hb dX5_surestQuestion_35 (by decide) ?_
          exact J39 o32 H _ ls h  (hP.sub (ws' := (bX4 a1 un kn n_n (bX6 a0 up kp p_p []))) [10, 11, 12, 13, 14, 0, 1, 2, 3, 4, 5, 6, 7, 8, 9] rfl) (hD.sub (ws' := (bX4 a1 un kn n_n (bX6 a0 up kp p_p []))) [10, 11, 12, 13, 14, 0, 1, 2, 3, 4, 5, 6, 7, 8, 9] (by decide) rfl) hS (lv_sub hl [0, 1, 2, 3, 4, 5] rfl)
  exact L9 FU (0 : Int32) (0 : Int64) (-2 : Int32) s.heap _ ls h  hP hD hS (lv_sub hl [0, 1, 2, 3, 4, 5] rfl)
theorem dX10_surest_0 : decode cX10_surest 0 = .ok (.aload_n 0, 1) := by decide +kernel
theorem dX10_surest_1 : decode cX10_surest 1 = .ok (.aload_n 0, 1) := by decide +kernel
theorem dX10_surest_12 : decode cX10_surest 12 = .ok (.iconst (-1), 1) := by decide +kernel
theorem dX10_surest_13 : decode cX10_surest 13 = .ok (.ireturn, 1) := by decide +kernel
theorem dX10_surest_14 : decode cX10_surest 14 = .ok (.aload_n 0, 1) := by decide +kernel
theorem dX10_surest_15 : decode cX10_surest 15 = .ok (.getfield 10, 3) := by decide +kernel
theorem dX10_surest_18 : decode cX10_surest 18 = .ok (.aload_n 0, 1) := by decide +kernel
theorem dX10_surest_19 : decode cX10_surest 19 = .ok (.getfield 29, 3) := by decide +kernel
theorem dX10_surest_2 : decode cX10_surest 2 = .ok (.iload_n 1, 1) := by decide +kernel
theorem dX10_surest_22 : decode cX10_surest 22 = .ok (.iload_n 1, 1) := by decide +kernel
theorem dX10_surest_23 : decode cX10_surest 23 = .ok (.invokestatic 213, 3) := by decide +kernel
theorem dX10_surest_26 : decode cX10_surest 26 = .ok (.ireturn, 1) := by decide +kernel
theorem dX10_surest_3 : decode cX10_surest 3 = .ok (.invokevirtual 210, 3) := by decide +kernel
theorem dX10_surest_6 : decode cX10_surest 6 = .ok (.invokevirtual 79, 3) := by decide +kernel
theorem dX10_surest_9 : decode cX10_surest 9 = .ok (.ifCond .eq 5, 3) := by decide +kernel
def vfX10_surest : List Cond := List.cons (.code yX10_surest cX10_surest 2 (some .int)) (apW [.methodLink RX10 210 yX10_thereTrouble, .instanceMethod yX10_thereTrouble, .selects RX10 yX10_thereTrouble yX10_thereTrouble, .initialized RX10, .methodLink RX10 79 yX10_refused, .instanceMethod yX10_refused, .selects RX10 yX10_refused yX10_refused, .fieldLink RX10 10 "HookPier" "plan" "LHookPier$Plan;", .fieldLink RX10 29 "HookPier" "now" "LHookPier$Now;", .methodLink RX10 213 yX5_surestQuestion, .static yX5_surestQuestion, .initialized RX5] (apW wsX100 (apW vfX10_thereTrouble (apW vfX10_refused (vfX5_surestQuestion)))))
theorem ifX10_surest_X10 : ∀ w ∈ wsX100, w ∈ vfX10_surest := fun _ h => (List.mem_cons_of_mem _ (List.mem_append_right _ (List.mem_append_left _ h)))
theorem qfX10_surest : Good vfX10_surest := gd_cons (by decide +kernel) (gd_app (gd_dec (by decide +kernel) : Good [.methodLink RX10 210 yX10_thereTrouble, .instanceMethod yX10_thereTrouble, .selects RX10 yX10_thereTrouble yX10_thereTrouble, .initialized RX10, .methodLink RX10 79 yX10_refused, .instanceMethod yX10_refused, .selects RX10 yX10_refused yX10_refused, .fieldLink RX10 10 "HookPier" "plan" "LHookPier$Plan;", .fieldLink RX10 29 "HookPier" "now" "LHookPier$Now;", .methodLink RX10 213 yX5_surestQuestion, .static yX5_surestQuestion, .initialized RX5]) (gd_app qsX10 (gd_app qfX10_thereTrouble (gd_app qfX10_refused qfX5_surestQuestion))))
theorem gfX10_surest_0 : GoodIn vfX10_surest (wsV RX10 210 RX10 yX10_thereTrouble vfX10_thereTrouble) := goodIn_app (goodIn_r [.methodLink RX10 210 yX10_thereTrouble, .instanceMethod yX10_thereTrouble, .selects RX10 yX10_thereTrouble yX10_thereTrouble, .initialized RX10] [1, 2, 3, 4] rfl (by decide +kernel)) (goodIn_m (fun _ h => (List.mem_cons_of_mem _ (List.mem_append_right _ (List.mem_append_right _ (List.mem_append_left _ h))))) qfX10_thereTrouble)
theorem gfX10_surest_1 : GoodIn vfX10_surest (wsV RX10 79 RX10 yX10_refused vfX10_refused) := goodIn_app (goodIn_r [.methodLink RX10 79 yX10_refused, .instanceMethod yX10_refused, .selects RX10 yX10_refused yX10_refused, .initialized RX10] [5, 6, 7, 4] rfl (by decide +kernel)) (goodIn_m (fun _ h => (List.mem_cons_of_mem _ (List.mem_append_right _ (List.mem_append_right _ (List.mem_append_right _ (List.mem_append_left _ h)))))) qfX10_refused)
theorem gfX10_surest_2 : GoodIn vfX10_surest (va_wsS RX10 213 yX5_surestQuestion vfX5_surestQuestion) := goodIn_app (goodIn_r [.methodLink RX10 213 yX5_surestQuestion, .static yX5_surestQuestion, .initialized RX5] [10, 11, 12] rfl (by decide +kernel)) (goodIn_m (fun _ h => (List.mem_cons_of_mem _ (List.mem_append_right _ (List.mem_append_right _ (List.mem_append_right _ (List.mem_append_right _ h)))))) qfX5_surestQuestion)
set_option maxHeartbeats 2000000 in
set_option maxRecDepth 100000 in
theorem kfX10_surest (l : Launch) (dC : Nat → ClassId) (dI : Nat → Nat → Nat) (a0 : Nat) (k1 : Int32) (a2 : Nat) (a3 : Nat) (up : Nat → Nat) (kp : Nat → ClassId) (un : Nat → Nat) (kn : Nat → ClassId) (x_x : TX10_x) (g9 : Value) (g10 : Value) (g11 : Value) (g12 : Value) (g13 : Value) (g14 : Value) (p_p : TX6_p) (n_n : TX4_n) (sz : Nat) (out : (Int32 × TX10_x)) (h : f_X10_surest k1 x_x p_p n_n = some out) : Met l yX10_surest vfX10_surest ({ frames := 5, cells := 0, slots := 0, locals := 123 }) (PC (dC, dI) [.ref a0, .int k1] sz ((a0, .inr (7, [.ref a2, g9, g10, .ref a3, g11, g12, g13, g14, .int x_x.1, .int x_x.2])) :: bX6 a2 up kp p_p (bX4 a3 un kn n_n [])) (tX6 kp (tX4 kn ([])))) (va_Qi (S := Unit) (fun (r : Int32) _ => r = out.1) (fun _ t => BC (dC, dI) (va_A ((a0, .inr (7, [.ref a2, g9, g10, .ref a3, g11, g12, g13, g14, .int x_x.1, .int x_x.2])) :: bX6 a2 up kp p_p (bX4 a3 un kn n_n [])) sz) ((a0, .inr (7, [.ref a2, g9, g10, .ref a3, g11, g12, g13, g14, .int out.2.1, .int out.2.2])) :: bX6 a2 up kp p_p (bX4 a3 un kn n_n [])) [] t) (va_A ((a0, .inr (7, [.ref a2, g9, g10, .ref a3, g11, g12, g13, g14, .int x_x.1, .int x_x.2])) :: bX6 a2 up kp p_p (bX4 a3 un kn n_n [])) sz)) 0 0 (va_A ((a0, .inr (7, [.ref a2, g9, g10, .ref a3, g11, g12, g13, g14, .int x_x.1, .int x_x.2])) :: bX6 a2 up kp p_p (bX4 a3 un kn n_n [])) sz) := by
  refine Met.ofW (cc := cX10_surest) (maxL := 2) (ret := (some .int)) (by decide) rfl ?_
  intro p e s m args below meth c s₁ B0 hml hv
  obtain ⟨rfl, hsz, hP, hK, hD0, hN⟩ := hv
  have hx := B0.exec
  have hb := B0.bytes
  have hr := B0.returns
  have hts := atoms_spec (ws := vfX10_surest) B0.pre
  have hown : s.vm.findClass RX10 = some m.cls := findClass_of_methodNamed B0.named
  have hlocks := B0.notSynchronized
  subst hsz
  have hD := hD0.self (sz := s.heap.size)
  generalize hAe : va_A ((a0, .inr (7, [.ref a2, g9, g10, .ref a3, g11, g12, g13, g14, .int x_x.1, .int x_x.2])) :: bX6 a2 up kp p_p (bX4 a3 un kn n_n [])) s.heap.size = A at hD ⊢
  have hA : ∀ q : Nat, s.heap.size ≤ q → A q := fun q h => by rw [← hAe]; exact Or.inr h
  have hS : va_S A s.heap s.heap [] := va_S.rf
  have hP : va_P (dC, dI) vwCl ((a0, .inr (7, [.ref a2, g9, g10, .ref a3, g11, g12, g13, g14, .int x_x.1, .int x_x.2])) :: bX6 a2 up kp p_p (bX4 a3 un kn n_n [])) s.heap := hP
  have hl := lv_entry ([.ref a0, .int k1]) (n := 2) (Nat.le_of_ble_eq_true rfl)
  rw [lg_entry_eq]
  generalize (lg_sl ([.ref a0, .int k1]) ++ List.replicate (2 - (lg_sl ([.ref a0, .int k1])).length) Slot.unset).toArray = ls at hl ⊢
  have hl : lv_has ls 2 [(0, .ref a0), (1, .int k1)] := hl
  refine W_q (fun QQ hQQ => ?_)
  rw [f_X10_surest] at h
  refine lv_aload_n hx hb dX10_surest_0 rfl (lv_at hl 0 rfl) ?_
  refine lv_aload_n hx hb dX10_surest_1 rfl (lv_at hl 0 rfl) ?_
  refine lv_iload_n hx hb dX10_surest_2 rfl (lv_at hl 1 rfl) ?_
  obtain ⟨o3, eo3, h⟩ := bd_of h
  refine cl_i (wc := ((a0, .inr (7, [.ref a2, g9, g10, .ref a3, g11, g12, g13, g14, .int x_x.1, .int x_x.2])) :: bX6 a2 up kp p_p (bX4 a3 un kn n_n []))) (wr := []) (va_runV (As := [.int k1]) (rest := [.ref a0]) ⟨hx, hb, hml, hown, hts⟩ (kfX10_thereTrouble l dC dI a0 k1 a2 a3 up kp un kn (g9) (g10) (g11) (g12) (g13) (g14) (.int x_x.1) (.int x_x.2) p_p n_n s.heap.size o3 eo3) (cwV 1 hts gfX10_surest_0 rfl rfl rfl (by decide +kernel) ⟨(Nat.le_of_ble_eq_true rfl), (Nat.le_of_ble_eq_true rfl)⟩) (PV (hP.sub (ws' := ((a0, .inr (7, [.ref a2, g9, g10, .ref a3, g11, g12, g13, g14, .int x_x.1, .int x_x.2])) :: bX6 a2 up kp p_p (bX4 a3 un kn n_n []))) [0, 1, 2, 3, 4, 5, 6, 7, 8, 9, 10, 11, 12, 13, 14, 15] rfl) (hK.sub (tys' := (tX6 kp (tX4 kn ([])))) [0, 1, 2, 3, 4, 5, 6, 7, 8, 9, 10, 11, 12] rfl) (hD.sub (ws' := ((a0, .inr (7, [.ref a2, g9, g10, .ref a3, g11, g12, g13, g14, .int x_x.1, .int x_x.2])) :: bX6 a2 up kp p_p (bX4 a3 un kn n_n []))) [0, 1, 2, 3, 4, 5, 6, 7, 8, 9, 10, 11, 12, 13, 14, 15] (by decide) rfl) hN 0 rfl rfl) rfl rfl hl.1 rfl (lv_room (Nat.le_of_ble_eq_true rfl)) dX10_surest_3 ⟨(Nat.le_of_ble_eq_true rfl), (Nat.le_of_ble_eq_true rfl)⟩) hP hD hK hS hA [0, 1, 2, 3, 4, 5, 6, 7, 8, 9, 10, 11, 12, 13, 14, 15] [] rfl rfl (by decide) (by decide) (fun r3 _ H locs hw hP hD _ hS => ?_)
  obtain rfl := hw.symm
  have hP : va_P (dC, dI) vwCl ((a0, .inr (7, [.ref a2, g9, g10, .ref a3, g11, g12, g13, g14, .int x_x.1, .int x_x.2])) :: bX6 a2 up kp p_p (bX4 a3 un kn n_n [])) H := hP
  have hD : va_D A ((a0, .inr (7, [.ref a2, g9, g10, .ref a3, g11, g12, g13, g14, .int x_x.1, .int x_x.2])) :: bX6 a2 up kp p_p (bX4 a3 un kn n_n [])) := hD
  obtain ⟨o6, eo6⟩ : ∃ o, o = f_X10_refused o3 x_x := ⟨_, rfl⟩
  have h := nm_of h o6 eo6
  refine cl_i (wc := ([(a0, .inr (7, [.ref a2, g9, g10, .ref a3, g11, g12, g13, g14, .int x_x.1, .int x_x.2]))])) (wr := (bX6 a2 up kp p_p (bX4 a3 un kn n_n []))) (va_runV (As := [.int o3]) (rest := []) ⟨hx, hb, hml, hown, hts⟩ (kfX10_refused l dC dI a0 o3 x_x (.ref a2) (g9) (g10) (.ref a3) (g11) (g12) (g13) (g14) H.size o6 eo6.symm) (cwV 1 hts gfX10_surest_1 rfl rfl rfl (by decide +kernel) ⟨(Nat.le_of_ble_eq_true rfl), (Nat.le_of_ble_eq_true rfl)⟩) (PV (hP.sub (ws' := ([(a0, .inr (7, [.ref a2, g9, g10, .ref a3, g11, g12, g13, g14, .int x_x.1, .int x_x.2]))])) [0] rfl) (hK.sub (tys' := ([])) [] rfl) (hD.sub (ws' := ([(a0, .inr (7, [.ref a2, g9, g10, .ref a3, g11, g12, g13, g14, .int x_x.1, .int x_x.2]))])) [0] (by decide) rfl) hN 0 rfl rfl) rfl rfl hl.1 rfl (lv_room (Nat.le_of_ble_eq_true rfl)) dX10_surest_6 ⟨(Nat.le_of_ble_eq_true rfl), (Nat.le_of_ble_eq_true rfl)⟩) hP hD hK hS hA [0] [1, 2, 3, 4, 5, 6, 7, 8, 9, 10, 11, 12, 13, 14, 15] rfl rfl (by decide) (by decide) (fun r6 _ H locs hw hP hD _ hS => ?_)
  obtain ⟨hw, br6⟩ := hw
  obtain rfl := hw
  have hP : va_P (dC, dI) vwCl (bX6 a2 up kp p_p (bX4 a3 un kn n_n ([(a0, .inr (7, [.ref a2, g9, g10, .ref a3, g11, g12, g13, g14, .int o6.2.1, .int o6.2.2]))]))) H := hP
  have hD : va_D A (bX6 a2 up kp p_p (bX4 a3 un kn n_n ([(a0, .inr (7, [.ref a2, g9, g10, .ref a3, g11, g12, g13, g14, .int o6.2.1, .int o6.2.2]))]))) := hD
  refine lv_if_eq (tgt := 14) hx hb dX10_surest_9 (by decide) (fun c9 => ?_) (fun c9 => ?_)
  · have h := (if_pos c9).symm.trans h
    refine lv_aload_n hx hb dX10_surest_14 rfl (lv_at hl 0 rfl) ?_
    refine va_get (D := (dC, dI)) (ci := 7) (v := .ref a2) (C := RX10) (T := TX10) (N := 10) hx hb hts ifX10_surest_X10 hown hK hP 15 rfl rfl 0 (by decide) (hts (.fieldLink RX10 10 "HookPier" "plan" "LHookPier$Plan;") (List.mem_of_getElem? (i := 8) rfl)) (fun _ h9 => h9) rfl dX10_surest_15 ?_
    refine lv_aload_n hx hb dX10_surest_18 rfl (lv_at hl 0 rfl) ?_
    refine va_get (D := (dC, dI)) (ci := 7) (v := .ref a3) (C := RX10) (T := TX10) (N := 10) hx hb hts ifX10_surest_X10 hown hK hP 15 rfl rfl 3 (by decide) (hts (.fieldLink RX10 29 "HookPier" "now" "LHookPier$Now;") (List.mem_of_getElem? (i := 9) rfl)) (fun _ h9 => h9) rfl dX10_surest_19 ?_
    refine lv_iload_n hx hb dX10_surest_22 rfl (lv_at hl 1 rfl) ?_
    obtain ⟨o23, eo23, h⟩ := bd_of h
    refine cl_i (wc := (bX6 a2 up kp p_p (bX4 a3 un kn n_n []))) (wr := ([(a0, .inr (7, [.ref a2, g9, g10, .ref a3, g11, g12, g13, g14, .int o6.2.1, .int o6.2.2]))])) (va_runS (As := [.ref a2, .ref a3, .int k1]) (rest := []) ⟨hx, hb, hml, hown, hts⟩ (kfX5_surestQuestion l dC dI a2 a3 k1 up kp un kn p_p n_n H.size o23 eo23) (va_cwS 3 hts gfX10_surest_2 rfl rfl rfl (by decide +kernel) ⟨(Nat.le_of_ble_eq_true rfl), (Nat.le_of_ble_eq_true rfl)⟩) (PS (hP.sub (ws' := (bX6 a2 up kp p_p (bX4 a3 un kn n_n []))) [0, 1, 2, 3, 4, 5, 6, 7, 8, 9, 10, 11, 12, 13, 14] rfl) (hK.sub (tys' := (tX6 kp (tX4 kn ([])))) [0, 1, 2, 3, 4, 5, 6, 7, 8, 9, 10, 11, 12] rfl) (hD.sub (ws' := (bX6 a2 up kp p_p (bX4 a3 un kn n_n []))) [0, 1, 2, 3, 4, 5, 6, 7, 8, 9, 10, 11, 12, 13, 14] (by decide) rfl) hN) rfl rfl hl.1 rfl (lv_room (Nat.le_of_ble_eq_true rfl)) dX10_surest_23 ⟨(Nat.le_of_ble_eq_true rfl), (Nat.le_of_ble_eq_true rfl)⟩) hP hD hK hS hA [0, 1, 2, 3, 4, 5, 6, 7, 8, 9, 10, 11, 12, 13, 14] [15] rfl rfl (by decide) (by decide) (fun r23 _ H locs hw hP hD _ hS => ?_)
    obtain rfl := hw.symm
    have hP : va_P (dC, dI) vwCl ((a0, .inr (7, [.ref a2, g9, g10, .ref a3, g11, g12, g13, g14, .int o6.2.1, .int o6.2.2])) :: bX6 a2 up kp p_p (bX4 a3 un kn n_n [])) H := hP
    have hD : va_D A ((a0, .inr (7, [.ref a2, g9, g10, .ref a3, g11, g12, g13, g14, .int o6.2.1, .int o6.2.2])) :: bX6 a2 up kp p_p (bX4 a3 un kn n_n [])) := hD
    obtain rfl := Option.some.inj h
    have hP9 := hP.sub (ws' := ((a0, .inr (7, [.ref a2, g9, g10, .ref a3, g11, g12, g13, g14, .int o6.2.1, .int o6.2.2])) :: bX6 a2 up kp p_p (bX4 a3 un kn n_n []))) [0, 1, 2, 3, 4, 5, 6, 7, 8, 9, 10, 11, 12, 13, 14, 15] rfl
    have hD9 := hD.sub (ws' := ((a0, .inr (7, [.ref a2, g9, g10, .ref a3, g11, g12, g13, g14, .int o6.2.1, .int o6.2.2])) :: bX6 a2 up kp p_p (bX4 a3 un kn n_n []))) [0, 1, 2, 3, 4, 5, 6, 7, 8, 9, 10, 11, 12, 13, 14, 15] (by decide) rfl
    have hK9 := hK.sub (tys' := []) [] rfl
    rw [hQQ]
    exact W.iret (v := o23) hx hb hr (fun t ht hW => ⟨⟨o23, (), rfl, rfl, by rw [ht]; exact hP9, va_K.moved hW.alike hK9, hD9⟩, hS.F ht⟩) hS.2.2 dX10_surest_26
  · have h := (if_neg c9).symm.trans h
    refine lv_iconst (v := (-1)) hx hb dX10_surest_12 (by decide) ?_
    obtain rfl := Option.some.inj h
    have hP9 := hP.sub (ws' := ((a0, .inr (7, [.ref a2, g9, g10, .ref a3, g11, g12, g13, g14, .int o6.2.1, .int o6.2.2])) :: bX6 a2 up kp p_p (bX4 a3 un kn n_n []))) [15, 0, 1, 2, 3, 4, 5, 6, 7, 8, 9, 10, 11, 12, 13, 14] rfl
    have hD9 := hD.sub (ws' := ((a0, .inr (7, [.ref a2, g9, g10, .ref a3, g11, g12, g13, g14, .int o6.2.1, .int o6.2.2])) :: bX6 a2 up kp p_p (bX4 a3 un kn n_n []))) [15, 0, 1, 2, 3, 4, 5, 6, 7, 8, 9, 10, 11, 12, 13, 14] (by decide) rfl
    have hK9 := hK.sub (tys' := []) [] rfl
    rw [hQQ]
    exact W.iret (v := (-1 : Int32)) hx hb hr (fun t ht hW => ⟨⟨(-1 : Int32), (), rfl, rfl, by rw [ht]; exact hP9, va_K.moved hW.alike hK9, hD9⟩, hS.F ht⟩) hS.2.2 dX10_surest_13
theorem dX10_surestOdds_0 : decode cX10_surestOdds 0 = .ok (.aload_n 0, 1) := by decide +kernel
theorem dX10_surestOdds_1 : decode cX10_surestOdds 1 = .ok (.aload_n 0, 1) := by decide +kernel
theorem dX10_surestOdds_12 : decode cX10_surestOdds 12 = .ok (.ldc2_w 187, 3) := by decide +kernel
theorem dX10_surestOdds_15 : decode cX10_surestOdds 15 = .ok (.lreturn, 1) := by decide +kernel
theorem dX10_surestOdds_16 : decode cX10_surestOdds 16 = .ok (.aload_n 0, 1) := by decide +kernel
theorem dX10_surestOdds_17 : decode cX10_surestOdds 17 = .ok (.getfield 10, 3) := by decide +kernel
theorem dX10_surestOdds_2 : decode cX10_surestOdds 2 = .ok (.iload_n 1, 1) := by decide +kernel
theorem dX10_surestOdds_20 : decode cX10_surestOdds 20 = .ok (.aload_n 0, 1) := by decide +kernel
theorem dX10_surestOdds_21 : decode cX10_surestOdds 21 = .ok (.getfield 29, 3) := by decide +kernel
theorem dX10_surestOdds_24 : decode cX10_surestOdds 24 = .ok (.iload_n 1, 1) := by decide +kernel
theorem dX10_surestOdds_25 : decode cX10_surestOdds 25 = .ok (.invokestatic 213, 3) := by decide +kernel
theorem dX10_surestOdds_28 : decode cX10_surestOdds 28 = .ok (.istore_n 3, 1) := by decide +kernel
theorem dX10_surestOdds_29 : decode cX10_surestOdds 29 = .ok (.iload_n 3, 1) := by decide +kernel
theorem dX10_surestOdds_3 : decode cX10_surestOdds 3 = .ok (.invokevirtual 210, 3) := by decide +kernel
theorem dX10_surestOdds_30 : decode cX10_surestOdds 30 = .ok (.bipush (-2), 2) := by decide +kernel
theorem dX10_surestOdds_32 : decode cX10_surestOdds 32 = .ok (.if_icmp .ne 7, 3) := by decide +kernel
theorem dX10_surestOdds_35 : decode cX10_surestOdds 35 = .ok (.lconst 0, 1) := by decide +kernel
theorem dX10_surestOdds_36 : decode cX10_surestOdds 36 = .ok (.goto 16, 3) := by decide +kernel
theorem dX10_surestOdds_39 : decode cX10_surestOdds 39 = .ok (.aload_n 0, 1) := by decide +kernel
theorem dX10_surestOdds_40 : decode cX10_surestOdds 40 = .ok (.getfield 10, 3) := by decide +kernel
theorem dX10_surestOdds_43 : decode cX10_surestOdds 43 = .ok (.aload_n 0, 1) := by decide +kernel
theorem dX10_surestOdds_44 : decode cX10_surestOdds 44 = .ok (.getfield 29, 3) := by decide +kernel
theorem dX10_surestOdds_47 : decode cX10_surestOdds 47 = .ok (.iload_n 1, 1) := by decide +kernel
theorem dX10_surestOdds_48 : decode cX10_surestOdds 48 = .ok (.iload_n 3, 1) := by decide +kernel
theorem dX10_surestOdds_49 : decode cX10_surestOdds 49 = .ok (.invokestatic 189, 3) := by decide +kernel
theorem dX10_surestOdds_52 : decode cX10_surestOdds 52 = .ok (.iload_n 2, 1) := by decide +kernel
theorem dX10_surestOdds_53 : decode cX10_surestOdds 53 = .ok (.invokestatic 195, 3) := by decide +kernel
theorem dX10_surestOdds_56 : decode cX10_surestOdds 56 = .ok (.lreturn, 1) := by decide +kernel
theorem dX10_surestOdds_6 : decode cX10_surestOdds 6 = .ok (.invokevirtual 79, 3) := by decide +kernel
theorem dX10_surestOdds_9 : decode cX10_surestOdds 9 = .ok (.ifCond .eq 7, 3) := by decide +kernel
def vfX10_surestOdds : List Cond := List.cons (.code yX10_surestOdds cX10_surestOdds 4 (some .long)) (apW [.methodLink RX10 210 yX10_thereTrouble, .instanceMethod yX10_thereTrouble, .selects RX10 yX10_thereTrouble yX10_thereTrouble, .initialized RX10, .methodLink RX10 79 yX10_refused, .instanceMethod yX10_refused, .selects RX10 yX10_refused yX10_refused, .fieldLink RX10 10 "HookPier" "plan" "LHookPier$Plan;", .fieldLink RX10 29 "HookPier" "now" "LHookPier$Now;", .methodLink RX10 213 yX5_surestQuestion, .static yX5_surestQuestion, .initialized RX5, .methodLink RX10 195 yX5_term, .static yX5_term, .methodLink RX10 189 yX5_chance, .static yX5_chance, .constantLong RX10 187 (-1)] (apW wsX100 (apW vfX10_thereTrouble (apW vfX10_refused (apW vfX5_surestQuestion (apW vfX5_term (vfX5_chance)))))))
theorem ifX10_surestOdds_X10 : ∀ w ∈ wsX100, w ∈ vfX10_surestOdds := fun _ h => (List.mem_cons_of_mem _ (List.mem_append_right _ (List.mem_append_left _ h)))
theorem qfX10_surestOdds : Good vfX10_surestOdds := gd_cons (by decide +kernel) (gd_app (gd_dec (by decide +kernel) : Good [.methodLink RX10 210 yX10_thereTrouble, .instanceMethod yX10_thereTrouble, .selects RX10 yX10_thereTrouble yX10_thereTrouble, .initialized RX10, .methodLink RX10 79 yX10_refused, .instanceMethod yX10_refused, .selects RX10 yX10_refused yX10_refused, .fieldLink RX10 10 "HookPier" "plan" "LHookPier$Plan;", .fieldLink RX10 29 "HookPier" "now" "LHookPier$Now;", .methodLink RX10 213 yX5_surestQuestion, .static yX5_surestQuestion, .initialized RX5, .methodLink RX10 195 yX5_term, .static yX5_term, .methodLink RX10 189 yX5_chance, .static yX5_chance, .constantLong RX10 187 (-1)]) (gd_app qsX10 (gd_app qfX10_thereTrouble (gd_app qfX10_refused (gd_app qfX5_surestQuestion (gd_app qfX5_term qfX5_chance))))))
theorem gfX10_surestOdds_0 : GoodIn vfX10_surestOdds (wsV RX10 210 RX10 yX10_thereTrouble vfX10_thereTrouble) := goodIn_app (goodIn_r [.methodLink RX10 210 yX10_thereTrouble, .instanceMethod yX10_thereTrouble, .selects RX10 yX10_thereTrouble yX10_thereTrouble, .initialized RX10] [1, 2, 3, 4] rfl (by decide +kernel)) (goodIn_m (fun _ h => (List.mem_cons_of_mem _ (List.mem_append_right _ (List.mem_append_right _ (List.mem_append_left _ h))))) qfX10_thereTrouble)
theorem gfX10_surestOdds_1 : GoodIn vfX10_surestOdds (wsV RX10 79 RX10 yX10_refused vfX10_refused) := goodIn_app (goodIn_r [.methodLink RX10 79 yX10_refused, .instanceMethod yX10_refused, .selects RX10 yX10_refused yX10_refused, .initialized RX10] [5, 6, 7, 4] rfl (by decide +kernel)) (goodIn_m (fun _ h => (List.mem_cons_of_mem _ (List.mem_append_right _ (List.mem_append_right _ (List.mem_append_right _ (List.mem_append_left _ h)))))) qfX10_refused)
theorem gfX10_surestOdds_2 : GoodIn vfX10_surestOdds (va_wsS RX10 213 yX5_surestQuestion vfX5_surestQuestion) := goodIn_app (goodIn_r [.methodLink RX10 213 yX5_surestQuestion, .static yX5_surestQuestion, .initialized RX5] [10, 11, 12] rfl (by decide +kernel)) (goodIn_m (fun _ h => (List.mem_cons_of_mem _ (List.mem_append_right _ (List.mem_append_right _ (List.mem_append_right _ (List.mem_append_right _ (List.mem_append_left _ h))))))) qfX5_surestQuestion)
theorem gfX10_surestOdds_3 : GoodIn vfX10_surestOdds (va_wsS RX10 195 yX5_term vfX5_term) := goodIn_app (goodIn_r [.methodLink RX10 195 yX5_term, .static yX5_term, .initialized RX5] [13, 14, 12] rfl (by decide +kernel)) (goodIn_m (fun _ h => (List.mem_cons_of_mem _ (List.mem_append_right _ (List.mem_append_right _ (List.mem_append_right _ (List.mem_append_right _ (List.mem_append_right _ (List.mem_append_left _ h)))))))) qfX5_term)
theorem gfX10_surestOdds_4 : GoodIn vfX10_surestOdds (va_wsS RX10 189 yX5_chance vfX5_chance) := goodIn_app (goodIn_r [.methodLink RX10 189 yX5_chance, .static yX5_chance, .initialized RX5] [15, 16, 12] rfl (by decide +kernel)) (goodIn_m (fun _ h => (List.mem_cons_of_mem _ (List.mem_append_right _ (List.mem_append_right _ (List.mem_append_right _ (List.mem_append_right _ (List.mem_append_right _ (List.mem_append_right _ h)))))))) qfX5_chance)
set_option maxHeartbeats 2000000 in
set_option maxRecDepth 100000 in
theorem kfX10_surestOdds (l : Launch) (dC : Nat → ClassId) (dI : Nat → Nat → Nat) (a0 : Nat) (k1 : Int32) (k2 : Int32) (a3 : Nat) (a4 : Nat) (up : Nat → Nat) (kp : Nat → ClassId) (un : Nat → Nat) (kn : Nat → ClassId) (x_x : TX10_x) (g10 : Value) (g11 : Value) (g12 : Value) (g13 : Value) (g14 : Value) (g15 : Value) (p_p : TX6_p) (n_n : TX4_n) (sz : Nat) (out : (Int64 × TX10_x)) (h : f_X10_surestOdds k1 k2 x_x p_p n_n = some out) : Met l yX10_surestOdds vfX10_surestOdds ({ frames := 5, cells := 0, slots := 0, locals := 123 }) (PC (dC, dI) [.ref a0, .int k1, .int k2] sz ((a0, .inr (7, [.ref a3, g10, g11, .ref a4, g12, g13, g14, g15, .int x_x.1, .int x_x.2])) :: bX6 a3 up kp p_p (bX4 a4 un kn n_n [])) (tX6 kp (tX4 kn ([])))) (va_Ql (S := Unit) (fun (r : Int64) _ => r = out.1) (fun _ t => BC (dC, dI) (va_A ((a0, .inr (7, [.ref a3, g10, g11, .ref a4, g12, g13, g14, g15, .int x_x.1, .int x_x.2])) :: bX6 a3 up kp p_p (bX4 a4 un kn n_n [])) sz) ((a0, .inr (7, [.ref a3, g10, g11, .ref a4, g12, g13, g14, g15, .int out.2.1, .int out.2.2])) :: bX6 a3 up kp p_p (bX4 a4 un kn n_n [])) [] t) (va_A ((a0, .inr (7, [.ref a3, g10, g11, .ref a4, g12, g13, g14, g15, .int x_x.1, .int x_x.2])) :: bX6 a3 up kp p_p (bX4 a4 un kn n_n [])) sz)) 0 0 (va_A ((a0, .inr (7, [.ref a3, g10, g11, .ref a4, g12, g13, g14, g15, .int x_x.1, .int x_x.2])) :: bX6 a3 up kp p_p (bX4 a4 un kn n_n [])) sz) := by
  refine Met.ofW (cc := cX10_surestOdds) (maxL := 4) (ret := (some .long)) (by decide) rfl ?_
  intro p e s m args below meth c s₁ B0 hml hv
  obtain ⟨rfl, hsz, hP, hK, hD0, hN⟩ := hv
  have hx := B0.exec
  have hb := B0.bytes
  have hr := B0.returns
  have hts := atoms_spec (ws := vfX10_surestOdds) B0.pre
  have hown : s.vm.findClass RX10 = some m.cls := findClass_of_methodNamed B0.named
  have hlocks := B0.notSynchronized
  subst hsz
  have hD := hD0.self (sz := s.heap.size)
  generalize hAe : va_A ((a0, .inr (7, [.ref a3, g10, g11, .ref a4, g12, g13, g14, g15, .int x_x.1, .int x_x.2])) :: bX6 a3 up kp p_p (bX4 a4 un kn n_n [])) s.heap.size = A at hD ⊢
  have hA : ∀ q : Nat, s.heap.size ≤ q → A q := fun q h => by rw [← hAe]; exact Or.inr h
  have hS : va_S A s.heap s.heap [] := va_S.rf
  have hP : va_P (dC, dI) vwCl ((a0, .inr (7, [.ref a3, g10, g11, .ref a4, g12, g13, g14, g15, .int x_x.1, .int x_x.2])) :: bX6 a3 up kp p_p (bX4 a4 un kn n_n [])) s.heap := hP
  have hl := lv_entry ([.ref a0, .int k1, .int k2]) (n := 4) (Nat.le_of_ble_eq_true rfl)
  rw [lg_entry_eq]
  generalize (lg_sl ([.ref a0, .int k1, .int k2]) ++ List.replicate (4 - (lg_sl ([.ref a0, .int k1, .int k2])).length) Slot.unset).toArray = ls at hl ⊢
  have hl : lv_has ls 4 [(0, .ref a0), (1, .int k1), (2, .int k2)] := hl
  refine W_q (fun QQ hQQ => ?_)
  rw [f_X10_surestOdds] at h
  refine lv_aload_n hx hb dX10_surestOdds_0 rfl (lv_at hl 0 rfl) ?_
  refine lv_aload_n hx hb dX10_surestOdds_1 rfl (lv_at hl 0 rfl) ?_
  refine lv_iload_n hx hb dX10_surestOdds_2 rfl (lv_at hl 1 rfl) ?_
  obtain ⟨o3, eo3, h⟩ := bd_of h
  refine cl_i (wc := ((a0, .inr (7, [.ref a3, g10, g11, .ref a4, g12, g13, g14, g15, .int x_x.1, .int x_x.2])) :: bX6 a3 up kp p_p (bX4 a4 un kn n_n []))) (wr := []) (va_runV (As := [.int k1]) (rest := [.ref a0]) ⟨hx, hb, hml, hown, hts⟩ (kfX10_thereTrouble l dC dI a0 k1 a3 a4 up kp un kn (g10) (g11) (g12) (g13) (g14) (g15) (.int x_x.1) (.int x_x.2) p_p n_n s.heap.size o3 eo3) (cwV 1 hts gfX10_surestOdds_0 rfl rfl rfl (by decide +kernel) ⟨(Nat.le_of_ble_eq_true rfl), (Nat.le_of_ble_eq_true rfl)⟩) (PV (hP.sub (ws' := ((a0, .inr (7, [.ref a3, g10, g11, .ref a4, g12, g13, g14, g15, .int x_x.1, .int x_x.2])) :: bX6 a3 up kp p_p (bX4 a4 un kn n_n []))) [0, 1, 2, 3, 4, 5, 6, 7, 8, 9, 10, 11, 12, 13, 14, 15] rfl) (hK.sub (tys' := (tX6 kp (tX4 kn ([])))) [0, 1, 2, 3, 4, 5, 6, 7, 8, 9, 10, 11, 12] rfl) (hD.sub (ws' := ((a0, .inr (7, [.ref a3, g10, g11, .ref a4, g12, g13, g14, g15, .int x_x.1, .int x_x.2])) :: bX6 a3 up kp p_p (bX4 a4 un kn n_n []))) [0, 1, 2, 3, 4, 5, 6, 7, 8, 9, 10, 11, 12, 13, 14, 15] (by decide) rfl) hN 0 rfl rfl) rfl rfl hl.1 rfl (lv_room (Nat.le_of_ble_eq_true rfl)) dX10_surestOdds_3 ⟨(Nat.le_of_ble_eq_true rfl), (Nat.le_of_ble_eq_true rfl)⟩) hP hD hK hS hA [0, 1, 2, 3, 4, 5, 6, 7, 8, 9, 10, 11, 12, 13, 14, 15] [] rfl rfl (by decide) (by decide) (fun r3 _ H locs hw hP hD _ hS => ?_)
  obtain rfl := hw.symm
  have hP : va_P (dC, dI) vwCl ((a0, .inr (7, [.ref a3, g10, g11, .ref a4, g12, g13, g14, g15, .int x_x.1, .int x_x.2])) :: bX6 a3 up kp p_p (bX4 a4 un kn n_n [])) H := hP
  have hD : va_D A ((a0, .inr (7, [.ref a3, g10, g11, .ref a4, g12, g13, g14, g15, .int x_x.1, .int x_x.2])) :: bX6 a3 up kp p_p (bX4 a4 un kn n_n [])) := hD
  obtain ⟨o6, eo6⟩ : ∃ o, o = f_X10_refused o3 x_x := ⟨_, rfl⟩
  have h := nm_of h o6 eo6
  refine cl_i (wc := ([(a0, .inr (7, [.ref a3, g10, g11, .ref a4, g12, g13, g14, g15, .int x_x.1, .int x_x.2]))])) (wr := (bX6 a3 up kp p_p (bX4 a4 un kn n_n []))) (va_runV (As := [.int o3]) (rest := []) ⟨hx, hb, hml, hown, hts⟩ (kfX10_refused l dC dI a0 o3 x_x (.ref a3) (g10) (g11) (.ref a4) (g12) (g13) (g14) (g15) H.size o6 eo6.symm) (cwV 1 hts gfX10_surestOdds_1 rfl rfl rfl (by decide +kernel) ⟨(Nat.le_of_ble_eq_true rfl), (Nat.le_of_ble_eq_true rfl)⟩) (PV (hP.sub (ws' := ([(a0, .inr (7, [.ref a3, g10, g11, .ref a4, g12, g13, g14, g15, .int x_x.1, .int x_x.2]))])) [0] rfl) (hK.sub (tys' := ([])) [] rfl) (hD.sub (ws' := ([(a0, .inr (7, [.ref a3, g10, g11, .ref a4, g12, g13, g14, g15, .int x_x.1, .int x_x.2]))])) [0] (by decide) rfl) hN 0 rfl rfl) rfl rfl hl.1 rfl (lv_room (Nat.le_of_ble_eq_true rfl)) dX10_surestOdds_6 ⟨(Nat.le_of_ble_eq_true rfl), (Nat.le_of_ble_eq_true rfl)⟩) hP hD hK hS hA [0] [1, 2, 3, 4, 5, 6, 7, 8, 9, 10, 11, 12, 13, 14, 15] rfl rfl (by decide) (by decide) (fun r6 _ H locs hw hP hD _ hS => ?_)
  obtain ⟨hw, br6⟩ := hw
  obtain rfl := hw
  have hP : va_P (dC, dI) vwCl (bX6 a3 up kp p_p (bX4 a4 un kn n_n ([(a0, .inr (7, [.ref a3, g10, g11, .ref a4, g12, g13, g14, g15, .int o6.2.1, .int o6.2.2]))]))) H := hP
  have hD : va_D A (bX6 a3 up kp p_p (bX4 a4 un kn n_n ([(a0, .inr (7, [.ref a3, g10, g11, .ref a4, g12, g13, g14, g15, .int o6.2.1, .int o6.2.2]))]))) := hD
  refine lv_if_eq (tgt := 16) hx hb dX10_surestOdds_9 (by decide) (fun c9 => ?_) (fun c9 => ?_)
  · have h := (if_pos c9).symm.trans h
    refine lv_aload_n hx hb dX10_surestOdds_16 rfl (lv_at hl 0 rfl) ?_
    refine va_get (D := (dC, dI)) (ci := 7) (v := .ref a3) (C := RX10) (T := TX10) (N := 10) hx hb hts ifX10_surestOdds_X10 hown hK hP 15 rfl rfl 0 (by decide) (hts (.fieldLink RX10 10 "HookPier" "plan" "LHookPier$Plan;") (List.mem_of_getElem? (i := 8) rfl)) (fun _ h9 => h9) rfl dX10_surestOdds_17 ?_
    refine lv_aload_n hx hb dX10_surestOdds_20 rfl (lv_at hl 0 rfl) ?_
    refine va_get (D := (dC, dI)) (ci := 7) (v := .ref a4) (C := RX10) (T := TX10) (N := 10) hx hb hts ifX10_surestOdds_X10 hown hK hP 15 rfl rfl 3 (by decide) (hts (.fieldLink RX10 29 "HookPier" "now" "LHookPier$Now;") (List.mem_of_getElem? (i := 9) rfl)) (fun _ h9 => h9) rfl dX10_surestOdds_21 ?_
    refine lv_iload_n hx hb dX10_surestOdds_24 rfl (lv_at hl 1 rfl) ?_
    obtain ⟨o25, eo25, h⟩ := bd_of h
    refine cl_i (wc := (bX6 a3 up kp p_p (bX4 a4 un kn n_n []))) (wr := ([(a0, .inr (7, [.ref a3, g10, g11, .ref a4, g12, g13, g14, g15, .int o6.2.1, .int o6.2.2]))])) (va_runS (As := [.ref a3, .ref a4, .int k1]) (rest := []) ⟨hx, hb, hml, hown, hts⟩ (kfX5_surestQuestion l dC dI a3 a4 k1 up kp un kn p_p n_n H.size o25 eo25) (va_cwS 3 hts gfX10_surestOdds_2 rfl rfl rfl (by decide +kernel) ⟨(Nat.le_of_ble_eq_true rfl), (Nat.le_of_ble_eq_true rfl)⟩) (PS (hP.sub (ws' := (bX6 a3 up kp p_p (bX4 a4 un kn n_n []))) [0, 1, 2, 3, 4, 5, 6, 7, 8, 9, 10, 11, 12, 13, 14] rfl) (hK.sub (tys' := (tX6 kp (tX4 kn ([])))) [0, 1, 2, 3, 4, 5, 6, 7, 8, 9, 10, 11, 12] rfl) (hD.sub (ws' := (bX6 a3 up kp p_p (bX4 a4 un kn n_n []))) [0, 1, 2, 3, 4, 5, 6, 7, 8, 9, 10, 11, 12, 13, 14] (by decide) rfl) hN) rfl rfl hl.1 rfl (lv_room (Nat.le_of_ble_eq_true rfl)) dX10_surestOdds_25 ⟨(Nat.le_of_ble_eq_true rfl), (Nat.le_of_ble_eq_true rfl)⟩) hP hD hK hS hA [0, 1, 2, 3, 4, 5, 6, 7, 8, 9, 10, 11, 12, 13, 14] [15] rfl rfl (by decide) (by decide) (fun r25 _ H locs hw hP hD _ hS => ?_)
    obtain rfl := hw.symm
    have hP : va_P (dC, dI) vwCl ((a0, .inr (7, [.ref a3, g10, g11, .ref a4, g12, g13, g14, g15, .int o6.2.1, .int o6.2.2])) :: bX6 a3 up kp p_p (bX4 a4 un kn n_n [])) H := hP
    have hD : va_D A ((a0, .inr (7, [.ref a3, g10, g11, .ref a4, g12, g13, g14, g15, .int o6.2.1, .int o6.2.2])) :: bX6 a3 up kp p_p (bX4 a4 un kn n_n [])) := hD
    refine lv_istore_n (lv' := [(3, .int o25), (0, .ref a0), (1, .int k1), (2, .int k2)]) hx hb dX10_surestOdds_28 rfl hl (by decide) rfl (fun ls hl => ?_)
    refine lv_iload_n hx hb dX10_surestOdds_29 rfl (lv_at hl 0 rfl) ?_
    refine lv_bipush (v := (-2)) hx hb dX10_surestOdds_30 (by decide) ?_
    have J52 : ∀ (v52_t0 : Int64) (H : Heap) (locs : List Loc) (ls : Array Slot), f_X10_surestOdds_J52 k2 o6 v52_t0 = some out → va_P (dC, dI) vwCl ((a0, .inr (7, [.ref a3, g10, g11, .ref a4, g12, g13, g14, g15, .int o6.2.1, .int o6.2.2])) :: bX6 a3 up kp p_p (bX4 a4 un kn n_n [])) H → va_D A ((a0, .inr (7, [.ref a3, g10, g11, .ref a4, g12, g13, g14, g15, .int o6.2.1, .int o6.2.2])) :: bX6 a3 up kp p_p (bX4 a4 un kn n_n [])) → va_S A s.heap H locs → lv_has ls 4 [(2, .int k2)] → W p l e (headSpec vfX10_surestOdds { frames := 5, cells := 0, slots := 0, locals := 123 }).room s m ([.ref a0, .int k1, .int k2]).toArray below meth c H locs 0 0 QQ (F0 m 52 ls [.long v52_t0]) := by
      intro v52_t0 H locs ls h  hP hD hS hl
      rw [f_X10_surestOdds_J52] at h
      refine lv_iload_n hx hb dX10_surestOdds_52 rfl (lv_at hl 0 rfl) ?_
      obtain ⟨o53, eo53, h⟩ := bd_of h
      refine cl_l (wc := []) (wr := ((a0, .inr (7, [.ref a3, g10, g11, .ref a4, g12, g13, g14, g15, .int o6.2.1, .int o6.2.2])) :: bX6 a3 up kp p_p (bX4 a4 un kn n_n []))) (va_runS (As := [.long v52_t0, .int k2]) (rest := []) ⟨hx, hb, hml, hown, hts⟩ (kfX5_term l dC dI v52_t0 k2 H.size o53 eo53) (va_cwS 2 hts gfX10_surestOdds_3 rfl rfl rfl (by decide +kernel) ⟨(Nat.le_of_ble_eq_true rfl), (Nat.le_of_ble_eq_true rfl)⟩) (PS (hP.sub (ws' := []) [] rfl) (hK.sub (tys' := ([])) [] rfl) (hD.sub (ws' := []) [] (by decide) rfl) hN) rfl rfl hl.1 rfl (lv_room (Nat.le_of_ble_eq_true rfl)) dX10_surestOdds_53 ⟨(Nat.le_of_ble_eq_true rfl), (Nat.le_of_ble_eq_true rfl)⟩) hP hD hK hS hA [] [0, 1, 2, 3, 4, 5, 6, 7, 8, 9, 10, 11, 12, 13, 14, 15] rfl rfl (by decide) (by decide) (fun r53 _ H locs hw hP hD _ hS => ?_)
      obtain rfl := hw.symm
      have hP : va_P (dC, dI) vwCl ((a0, .inr (7, [.ref a3, g10, g11, .ref a4, g12, g13, g14, g15, .int o6.2.1, .int o6.2.2])) :: bX6 a3 up kp p_p (bX4 a4 un kn n_n [])) H := hP
      have hD : va_D A ((a0, .inr (7, [.ref a3, g10, g11, .ref a4, g12, g13, g14, g15, .int o6.2.1, .int o6.2.2])) :: bX6 a3 up kp p_p (bX4 a4 un kn n_n [])) := hD
      obtain rfl := Option.some.inj h
      have hP9 := hP.sub (ws' := ((a0, .inr (7, [.ref a3, g10, g11, .ref a4, g12, g13, g14, g15, .int o6.2.1, .int o6.2.2])) :: bX6 a3 up kp p_p (bX4 a4 un kn n_n []))) [0, 1, 2, 3, 4, 5, 6, 7, 8, 9, 10, 11, 12, 13, 14, 15] rfl
      have hD9 := hD.sub (ws' := ((a0, .inr (7, [.ref a3, g10, g11, .ref a4, g12, g13, g14, g15, .int o6.2.1, .int o6.2.2])) :: bX6 a3 up kp p_p (bX4 a4 un kn n_n []))) [0, 1, 2, 3, 4, 5, 6, 7, 8, 9, 10, 11, 12, 13, 14, 15] (by decide) rfl
      have hK9 := hK.sub (tys' := []) [] rfl
      rw [hQQ]
      exact W.lret (v := o53) hx hb hr (fun t ht hW => ⟨⟨o53, (), rfl, rfl, by rw [ht]; exact hP9, va_K.moved hW.alike hK9, hD9⟩, hS.F ht⟩) hS.2.2 dX10_surestOdds_56
    refine lv_icmp_ne (tgt := 39) hx hb dX10_surestOdds_32 (by decide) (fun c32 => ?_) (fun c32 => ?_)
    · have h := (if_neg c32).symm.trans h
      refine lv_aload_n hx hb dX10_surestOdds_39 rfl (lv_at hl 1 rfl) ?_
      refine va_get (D := (dC, dI)) (ci := 7) (v := .ref a3) (C := RX10) (T := TX10) (N := 10) hx hb hts ifX10_surestOdds_X10 hown hK hP 0 rfl rfl 0 (by decide) (hts (.fieldLink RX10 10 "HookPier" "plan" "LHookPier$Plan;") (List.mem_of_getElem? (i := 8) rfl)) (fun _ h9 => h9) rfl dX10_surestOdds_40 ?_
      refine lv_aload_n hx hb dX10_surestOdds_43 rfl (lv_at hl 1 rfl) ?_
      refine va_get (D := (dC, dI)) (ci := 7) (v := .ref a4) (C := RX10) (T := TX10) (N := 10) hx hb hts ifX10_surestOdds_X10 hown hK hP 0 rfl rfl 3 (by decide) (hts (.fieldLink RX10 29 "HookPier" "now" "LHookPier$Now;") (List.mem_of_getElem? (i := 9) rfl)) (fun _ h9 => h9) rfl dX10_surestOdds_44 ?_
      refine lv_iload_n hx hb dX10_surestOdds_47 rfl (lv_at hl 2 rfl) ?_
      refine lv_iload_n hx hb dX10_surestOdds_48 rfl (lv_at hl 0 rfl) ?_
      obtain ⟨o49, eo49, h⟩ := bd_of h
      refine cl_l (wc := (bX6 a3 up kp p_p (bX4 a4 un kn n_n []))) (wr := ([(a0, .inr (7, [.ref a3, g10, g11, .ref a4, g12, g13, g14, g15, .int o6.2.1, .int o6.2.2]))])) (va_runS (As := [.ref a3, .ref a4, .int k1, .int o25]) (rest := []) ⟨hx, hb, hml, hown, hts⟩ (kfX5_chance l dC dI a3 a4 k1 o25 up kp un kn p_p n_n H.size o49 eo49) (va_cwS 4 hts gfX10_surestOdds_4 rfl rfl rfl (by decide +kernel) ⟨(Nat.le_of_ble_eq_true rfl), (Nat.le_of_ble_eq_true rfl)⟩) (PS (hP.sub (ws' := (bX6 a3 up kp p_p (bX4 a4 un kn n_n []))) [1, 2, 3, 4, 5, 6, 7, 8, 9, 10, 11, 12, 13, 14, 15] rfl) (hK.sub (tys' := (tX6 kp (tX4 kn ([])))) [0, 1, 2, 3, 4, 5, 6, 7, 8, 9, 10, 11, 12] rfl) (hD.sub (ws' := (bX6 a3 up kp p_p (bX4 a4 un kn n_n []))) [1, 2, 3, 4, 5, 6, 7, 8, 9, 10, 11, 12, 13, 14, 15] (by decide) rfl) hN) rfl rfl hl.1 rfl (lv_room (Nat.le_of_ble_eq_true rfl)) dX10_surestOdds_49 ⟨(Nat.le_of_ble_eq_true rfl), (Nat.le_of_ble_eq_true rfl)⟩) hP hD hK hS hA [1, 2, 3, 4, 5, 6, 7, 8, 9, 10, 11, 12, 13, 14, 15] [0] rfl rfl (by decide) (by decide) (fun r49 _ H locs hw hP hD _ hS => ?_)
      obtain rfl := hw.symm
      have hP : va_P (dC, dI) vwCl ((a0, .inr (7, [.ref a3, g10, g11, .ref a4, g12, g13, g14, g15, .int o6.2.1, .int o6.2.2])) :: bX6 a3 up kp p_p (bX4 a4 un kn n_n [])) H := hP
      have hD : va_D A ((a0, .inr (7, [.ref a3, g10, g11, .ref a4, g12, g13, g14, g15, .int o6.2.1, .int o6.2.2])) :: bX6 a3 up kp p_p (bX4 a4 un kn n_n [])) := hD
      exact J52 o49 H _ ls h  hP hD hS (lv_sub hl [3] rfl)
    · have h := (if_pos c32).symm.trans h
      refine lv_lconst (v := 0) hx hb dX10_surestOdds_35 (by decide) ?_
      refine lv_goto (tgt := 52) hx hb dX10_surestOdds_36 (by decide) ?_
      exact J52 (0 : Int64) H _ ls h  hP hD hS (lv_sub hl [3] rfl)
  · have h := (if_neg c9).symm.trans h
    refine lv_ldc2 hx hb hown (hts (.constantLong RX10 187 (-1)) (List.mem_of_getElem? (i := 17) rfl)) dX10_surestOdds_12 ?_
    obtain rfl := Option.some.inj h
    have hP9 := hP.sub (ws' := ((a0, .inr (7, [.ref a3, g10, g11, .ref a4, g12, g13, g14, g15, .int o6.2.1, .int o6.2.2])) :: bX6 a3 up kp p_p (bX4 a4 un kn n_n []))) [15, 0, 1, 2, 3, 4, 5, 6, 7, 8, 9, 10, 11, 12, 13, 14] rfl
    have hD9 := hD.sub (ws' := ((a0, .inr (7, [.ref a3, g10, g11, .ref a4, g12, g13, g14, g15, .int o6.2.1, .int o6.2.2])) :: bX6 a3 up kp p_p (bX4 a4 un kn n_n []))) [15, 0, 1, 2, 3, 4, 5, 6, 7, 8, 9, 10, 11, 12, 13, 14] (by decide) rfl
    have hK9 := hK.sub (tys' := []) [] rfl
    rw [hQQ]
    exact W.lret (v := (-1 : Int64)) hx hb hr (fun t ht hW => ⟨⟨(-1 : Int64), (), rfl, rfl, by rw [ht]; exact hP9, va_K.moved hW.alike hK9, hD9⟩, hS.F ht⟩) hS.2.2 dX10_surestOdds_15
theorem dX5_worthiestQuestion_0 : decode cX5_worthiestQuestion 0 = .ok (.bipush (-2), 2) := by decide +kernel
theorem dX5_worthiestQuestion_10 : decode cX5_worthiestQuestion 10 = .ok (.aload_n 0, 1) := by decide +kernel
theorem dX5_worthiestQuestion_11 : decode cX5_worthiestQuestion 11 = .ok (.invokevirtual 41, 3) := by decide +kernel
theorem dX5_worthiestQuestion_14 : decode cX5_worthiestQuestion 14 = .ok (.if_icmp .ge 44, 3) := by decide +kernel
theorem dX5_worthiestQuestion_17 : decode cX5_worthiestQuestion 17 = .ok (.aload_n 0, 1) := by decide +kernel
theorem dX5_worthiestQuestion_18 : decode cX5_worthiestQuestion 18 = .ok (.iload 5, 2) := by decide +kernel
theorem dX5_worthiestQuestion_2 : decode cX5_worthiestQuestion 2 = .ok (.istore_n 2, 1) := by decide +kernel
theorem dX5_worthiestQuestion_20 : decode cX5_worthiestQuestion 20 = .ok (.invokevirtual 45, 3) := by decide +kernel
theorem dX5_worthiestQuestion_23 : decode cX5_worthiestQuestion 23 = .ok (.ifCond .eq 13, 3) := by decide +kernel
theorem dX5_worthiestQuestion_26 : decode cX5_worthiestQuestion 26 = .ok (.aload_n 0, 1) := by decide +kernel
theorem dX5_worthiestQuestion_27 : decode cX5_worthiestQuestion 27 = .ok (.aload_n 1, 1) := by decide +kernel
theorem dX5_worthiestQuestion_28 : decode cX5_worthiestQuestion 28 = .ok (.iload 5, 2) := by decide +kernel
theorem dX5_worthiestQuestion_3 : decode cX5_worthiestQuestion 3 = .ok (.lconst 0, 1) := by decide +kernel
theorem dX5_worthiestQuestion_30 : decode cX5_worthiestQuestion 30 = .ok (.invokestatic 49, 3) := by decide +kernel
theorem dX5_worthiestQuestion_33 : decode cX5_worthiestQuestion 33 = .ok (.goto 4, 3) := by decide +kernel
theorem dX5_worthiestQuestion_36 : decode cX5_worthiestQuestion 36 = .ok (.lconst 0, 1) := by decide +kernel
theorem dX5_worthiestQuestion_37 : decode cX5_worthiestQuestion 37 = .ok (.lstore 6, 2) := by decide +kernel
theorem dX5_worthiestQuestion_39 : decode cX5_worthiestQuestion 39 = .ok (.lload 6, 2) := by decide +kernel
theorem dX5_worthiestQuestion_4 : decode cX5_worthiestQuestion 4 = .ok (.lstore_n 3, 1) := by decide +kernel
theorem dX5_worthiestQuestion_41 : decode cX5_worthiestQuestion 41 = .ok (.lload_n 3, 1) := by decide +kernel
theorem dX5_worthiestQuestion_42 : decode cX5_worthiestQuestion 42 = .ok (.lcmp, 1) := by decide +kernel
theorem dX5_worthiestQuestion_43 : decode cX5_worthiestQuestion 43 = .ok (.ifCond .le 9, 3) := by decide +kernel
theorem dX5_worthiestQuestion_46 : decode cX5_worthiestQuestion 46 = .ok (.lload 6, 2) := by decide +kernel
theorem dX5_worthiestQuestion_48 : decode cX5_worthiestQuestion 48 = .ok (.lstore_n 3, 1) := by decide +kernel
theorem dX5_worthiestQuestion_49 : decode cX5_worthiestQuestion 49 = .ok (.iload 5, 2) := by decide +kernel
theorem dX5_worthiestQuestion_5 : decode cX5_worthiestQuestion 5 = .ok (.iconst 0, 1) := by decide +kernel
theorem dX5_worthiestQuestion_51 : decode cX5_worthiestQuestion 51 = .ok (.istore_n 2, 1) := by decide +kernel
theorem dX5_worthiestQuestion_52 : decode cX5_worthiestQuestion 52 = .ok (.iinc 5 1, 3) := by decide +kernel
theorem dX5_worthiestQuestion_55 : decode cX5_worthiestQuestion 55 = .ok (.goto (-47), 3) := by decide +kernel
theorem dX5_worthiestQuestion_58 : decode cX5_worthiestQuestion 58 = .ok (.iload_n 2, 1) := by decide +kernel
theorem dX5_worthiestQuestion_59 : decode cX5_worthiestQuestion 59 = .ok (.ireturn, 1) := by decide +kernel
theorem dX5_worthiestQuestion_6 : decode cX5_worthiestQuestion 6 = .ok (.istore 5, 2) := by decide +kernel
theorem dX5_worthiestQuestion_8 : decode cX5_worthiestQuestion 8 = .ok (.iload 5, 2) := by decide +kernel
def vfX5_worthiestQuestion : List Cond := List.cons (.code yX5_worthiestQuestion cX5_worthiestQuestion 8 (some .int)) (apW [.methodLink RX5 41 yX6_questionBound, .instanceMethod yX6_questionBound, .selects RX6 yX6_questionBound yX6_questionBound, .initialized RX6, .methodLink RX5 45 yX6_hasQuestion, .instanceMethod yX6_hasQuestion, .selects RX6 yX6_hasQuestion yX6_hasQuestion, .methodLink RX5 49 yX5_meanWorth, .static yX5_meanWorth, .initialized RX5] (apW vfX6_questionBound (apW vfX6_hasQuestion (vfX5_meanWorth))))
theorem qfX5_worthiestQuestion : Good vfX5_worthiestQuestion := gd_cons (by decide +kernel) (gd_app (gd_dec (by decide +kernel) : Good [.methodLink RX5 41 yX6_questionBound, .instanceMethod yX6_questionBound, .selects RX6 yX6_questionBound yX6_questionBound, .initialized RX6, .methodLink RX5 45 yX6_hasQuestion, .instanceMethod yX6_hasQuestion, .selects RX6 yX6_hasQuestion yX6_hasQuestion, .methodLink RX5 49 yX5_meanWorth, .static yX5_meanWorth, .initialized RX5]) (gd_app qfX6_questionBound (gd_app qfX6_hasQuestion qfX5_meanWorth)))
theorem gfX5_worthiestQuestion_0 : GoodIn vfX5_worthiestQuestion (wsV RX5 41 RX6 yX6_questionBound vfX6_questionBound) := goodIn_app (goodIn_r [.methodLink RX5 41 yX6_questionBound, .instanceMethod yX6_questionBound, .selects RX6 yX6_questionBound yX6_questionBound, .initialized RX6] [1, 2, 3, 4] rfl (by decide +kernel)) (goodIn_m (fun _ h => (List.mem_cons_of_mem _ (List.mem_append_right _ (List.mem_append_left _ h)))) qfX6_questionBound)
theorem gfX5_worthiestQuestion_1 : GoodIn vfX5_worthiestQuestion (wsV RX5 45 RX6 yX6_hasQuestion vfX6_hasQuestion) := goodIn_app (goodIn_r [.methodLink RX5 45 yX6_hasQuestion, .instanceMethod yX6_hasQuestion, .selects RX6 yX6_hasQuestion yX6_hasQuestion, .initialized RX6] [5, 6, 7, 4] rfl (by decide +kernel)) (goodIn_m (fun _ h => (List.mem_cons_of_mem _ (List.mem_append_right _ (List.mem_append_right _ (List.mem_append_left _ h))))) qfX6_hasQuestion)
theorem gfX5_worthiestQuestion_2 : GoodIn vfX5_worthiestQuestion (va_wsS RX5 49 yX5_meanWorth vfX5_meanWorth) := goodIn_app (goodIn_r [.methodLink RX5 49 yX5_meanWorth, .static yX5_meanWorth, .initialized RX5] [8, 9, 10] rfl (by decide +kernel)) (goodIn_m (fun _ h => (List.mem_cons_of_mem _ (List.mem_append_right _ (List.mem_append_right _ (List.mem_append_right _ h))))) qfX5_meanWorth)
set_option maxHeartbeats 2000000 in
set_option maxRecDepth 100000 in
theorem kfX5_worthiestQuestion (l : Launch) (dC : Nat → ClassId) (dI : Nat → Nat → Nat) (a0 : Nat) (a1 : Nat) (up : Nat → Nat) (kp : Nat → ClassId) (un : Nat → Nat) (kn : Nat → ClassId) (p_p : TX6_p) (n_n : TX4_n) (sz : Nat) (out : Int32) (h : f_X5_worthiestQuestion p_p n_n = some out) : Met l yX5_worthiestQuestion vfX5_worthiestQuestion ({ frames := 5, cells := 0, slots := 0, locals := 120 }) (PC (dC, dI) [.ref a0, .ref a1] sz (bX6 a0 up kp p_p (bX4 a1 un kn n_n [])) (tX6 kp (tX4 kn ([])))) (va_Qi (S := Unit) (fun (r : Int32) _ => r = out) (fun _ t => BC (dC, dI) (va_A (bX6 a0 up kp p_p (bX4 a1 un kn n_n [])) sz) (bX6 a0 up kp p_p (bX4 a1 un kn n_n [])) [] t) (va_A (bX6 a0 up kp p_p (bX4 a1 un kn n_n [])) sz)) 0 0 (va_A (bX6 a0 up kp p_p (bX4 a1 un kn n_n [])) sz) := by
  refine Met.ofW (cc := cX5_worthiestQuestion) (maxL := 8) (ret := (some .int)) (by decide) rfl ?_
  intro p e s m args below meth c s₁ B0 hml hv
  obtain ⟨rfl, hsz, hP, hK, hD0, hN⟩ := hv
  have hx := B0.exec
  have hb := B0.bytes
  have hr := B0.returns
  have hts := atoms_spec (ws := vfX5_worthiestQuestion) B0.pre
  have hown : s.vm.findClass RX5 = some m.cls := findClass_of_methodNamed B0.named
  have hlocks := B0.notSynchronized
  subst hsz
  have hD := hD0.self (sz := s.heap.size)
  generalize hAe : va_A (bX6 a0 up kp p_p (bX4 a1 un kn n_n [])) s.heap.size = A at hD ⊢
  have hA : ∀ q : Nat, s.heap.size ≤ q → A q := fun q h => by rw [← hAe]; exact Or.inr h
  have hS : va_S A s.heap s.heap [] := va_S.rf
  have hP : va_P (dC, dI) vwCl (bX6 a0 up kp p_p (bX4 a1 un kn n_n [])) s.heap := hP
  have hl := lv_entry ([.ref a0, .ref a1]) (n := 8) (Nat.le_of_ble_eq_true rfl)
  rw [lg_entry_eq]
  generalize (lg_sl ([.ref a0, .ref a1]) ++ List.replicate (8 - (lg_sl ([.ref a0, .ref a1])).length) Slot.unset).toArray = ls at hl ⊢
  have hl : lv_has ls 8 [(0, .ref a0), (1, .ref a1)] := hl
  refine W_q (fun QQ hQQ => ?_)
  rw [f_X5_worthiestQuestion] at h
  refine lv_bipush (v := (-2)) hx hb dX5_worthiestQuestion_0 (by decide) ?_
  refine lv_istore_n (lv' := [(2, .int (-2)), (0, .ref a0), (1, .ref a1)]) hx hb dX5_worthiestQuestion_2 rfl hl (by decide) rfl (fun ls hl => ?_)
  refine lv_lconst (v := 0) hx hb dX5_worthiestQuestion_3 (by decide) ?_
  refine lv_lstore_n (lv' := [(3, .long 0), (2, .int (-2)), (0, .ref a0), (1, .ref a1)]) hx hb dX5_worthiestQuestion_4 rfl hl (by decide) rfl (fun ls hl => ?_)
  refine lv_iconst (v := 0) hx hb dX5_worthiestQuestion_5 (by decide) ?_
  refine lv_istore (lv' := [(5, .int 0), (3, .long 0), (2, .int (-2)), (0, .ref a0), (1, .ref a1)]) hx hb dX5_worthiestQuestion_6 hl (by decide) rfl (fun ls hl => ?_)
  have L8 : ∀ (n8 : Nat) (v8_l5 : Int32) (v8_l3 : Int64) (v8_l2 : Int32) (H : Heap) (locs : List Loc) (ls : Array Slot), f_X5_worthiestQuestion_L8 p_p n_n n8 v8_l5 v8_l3 v8_l2 = some out → va_P (dC, dI) vwCl (bX6 a0 up kp p_p (bX4 a1 un kn n_n [])) H → va_D A (bX6 a0 up kp p_p (bX4 a1 un kn n_n [])) → va_S A s.heap H locs → lv_has ls 8 [(5, .int v8_l5), (3, .long v8_l3), (2, .int v8_l2), (0, .ref a0), (1, .ref a1)] → W p l e (headSpec vfX5_worthiestQuestion { frames := 5, cells := 0, slots := 0, locals := 120 }).room s m ([.ref a0, .ref a1]).toArray below meth c H locs 0 0 QQ (F0 m 8 ls []) := by
    intro n8
    induction n8 with
    | zero =>
      intro v8_l5 v8_l3 v8_l2 H locs ls h  _ _ _ _
      rw [f_X5_worthiestQuestion_L8] at h
      cases h
    | succ n8 ih8 =>
      intro v8_l5 v8_l3 v8_l2 H locs ls h  hP hD hS hl
      rw [f_X5_worthiestQuestion_L8] at h
      refine lv_iload hx hb dX5_worthiestQuestion_8 (lv_at hl 0 rfl) ?_
      refine lv_aload_n hx hb dX5_worthiestQuestion_10 rfl (lv_at hl 3 rfl) ?_
      obtain ⟨o11, eo11⟩ : ∃ o, o = f_X6_questionBound p_p := ⟨_, rfl⟩
      have h := nm_of h o11 eo11
      refine cl_i (wc := (bX6 a0 up kp p_p [])) (wr := (bX4 a1 un kn n_n [])) (va_runV (As := []) (rest := [.int v8_l5]) ⟨hx, hb, hml, hown, hts⟩ (kfX6_questionBound l dC dI a0 up kp p_p H.size o11 eo11.symm) (cwV 0 hts gfX5_worthiestQuestion_0 rfl rfl rfl (by decide +kernel) ⟨(Nat.le_of_ble_eq_true rfl), (Nat.le_of_ble_eq_true rfl)⟩) (PV (hP.sub (ws' := (bX6 a0 up kp p_p [])) [0, 1, 2, 3, 4, 5, 6, 7, 8, 9] rfl) (hK.sub (tys' := (tX6 kp ([]))) [0, 1, 2, 3, 4, 5, 6, 7, 8] rfl) (hD.sub (ws' := (bX6 a0 up kp p_p [])) [0, 1, 2, 3, 4, 5, 6, 7, 8, 9] (by decide) rfl) hN 0 rfl rfl) rfl rfl hl.1 rfl (lv_room (Nat.le_of_ble_eq_true rfl)) dX5_worthiestQuestion_11 ⟨(Nat.le_of_ble_eq_true rfl), (Nat.le_of_ble_eq_true rfl)⟩) hP hD hK hS hA [0, 1, 2, 3, 4, 5, 6, 7, 8, 9] [10, 11, 12, 13, 14] rfl rfl (by decide) (by decide) (fun r11 _ H locs hw hP hD _ hS => ?_)
      obtain rfl := hw.symm
      have hP : va_P (dC, dI) vwCl (bX4 a1 un kn n_n (bX6 a0 up kp p_p [])) H := hP
      have hD : va_D A (bX4 a1 un kn n_n (bX6 a0 up kp p_p [])) := hD
      refine lv_icmp_ge (tgt := 58) hx hb dX5_worthiestQuestion_14 (by decide) (fun c14 => ?_) (fun c14 => ?_)
      · have h := (if_pos c14).symm.trans h
        refine lv_iload_n hx hb dX5_worthiestQuestion_58 rfl (lv_at hl 2 rfl) ?_
        obtain rfl := Option.some.inj h
        have hP9 := hP.sub (ws' := (bX6 a0 up kp p_p (bX4 a1 un kn n_n []))) [5, 6, 7, 8, 9, 10, 11, 12, 13, 14, 0, 1, 2, 3, 4] rfl
        have hD9 := hD.sub (ws' := (bX6 a0 up kp p_p (bX4 a1 un kn n_n []))) [5, 6, 7, 8, 9, 10, 11, 12, 13, 14, 0, 1, 2, 3, 4] (by decide) rfl
        have hK9 := hK.sub (tys' := []) [] rfl
        rw [hQQ]
        exact W.iret (v := v8_l2) hx hb hr (fun t ht hW => ⟨⟨v8_l2, (), rfl, rfl, by rw [ht]; exact hP9, va_K.moved hW.alike hK9, hD9⟩, hS.F ht⟩) hS.2.2 dX5_worthiestQuestion_59
      · have h := (if_neg c14).symm.trans h
        refine lv_aload_n hx hb dX5_worthiestQuestion_17 rfl (lv_at hl 3 rfl) ?_
        refine lv_iload hx hb dX5_worthiestQuestion_18 (lv_at hl 0 rfl) ?_
        obtain ⟨o20, eo20⟩ : ∃ o, o = f_X6_hasQuestion v8_l5 p_p := ⟨_, rfl⟩
        have h := nm_of h o20 eo20
        refine cl_i (wc := (bX6 a0 up kp p_p [])) (wr := (bX4 a1 un kn n_n [])) (va_runV (As := [.int v8_l5]) (rest := []) ⟨hx, hb, hml, hown, hts⟩ (kfX6_hasQuestion l dC dI a0 v8_l5 up kp p_p H.size o20 eo20.symm) (cwV 1 hts gfX5_worthiestQuestion_1 rfl rfl rfl (by decide +kernel) ⟨(Nat.le_of_ble_eq_true rfl), (Nat.le_of_ble_eq_true rfl)⟩) (PV (hP.sub (ws' := (bX6 a0 up kp p_p [])) [5, 6, 7, 8, 9, 10, 11, 12, 13, 14] rfl) (hK.sub (tys' := (tX6 kp ([]))) [0, 1, 2, 3, 4, 5, 6, 7, 8] rfl) (hD.sub (ws' := (bX6 a0 up kp p_p [])) [5, 6, 7, 8, 9, 10, 11, 12, 13, 14] (by decide) rfl) hN 0 rfl rfl) rfl rfl hl.1 rfl (lv_room (Nat.le_of_ble_eq_true rfl)) dX5_worthiestQuestion_20 ⟨(Nat.le_of_ble_eq_true rfl), (Nat.le_of_ble_eq_true rfl)⟩) hP hD hK hS hA [5, 6, 7, 8, 9, 10, 11, 12, 13, 14] [0, 1, 2, 3, 4] rfl rfl (by decide) (by decide) (fun r20 _ H locs hw hP hD _ hS => ?_)
        obtain ⟨hw, br20⟩ := hw
        obtain rfl := hw.symm
        have hP : va_P (dC, dI) vwCl (bX4 a1 un kn n_n (bX6 a0 up kp p_p [])) H := hP
        have hD : va_D A (bX4 a1 un kn n_n (bX6 a0 up kp p_p [])) := hD
        have J37 : ∀ (v37_t0 : Int64) (H : Heap) (locs : List Loc) (ls : Array Slot), f_X5_worthiestQuestion_J37 (f_X5_worthiestQuestion_L8 p_p n_n n8) v8_l2 v8_l3 v8_l5 v37_t0 = some out → va_P (dC, dI) vwCl (bX4 a1 un kn n_n (bX6 a0 up kp p_p [])) H → va_D A (bX4 a1 un kn n_n (bX6 a0 up kp p_p [])) → va_S A s.heap H locs → lv_has ls 8 [(5, .int v8_l5), (3, .long v8_l3), (2, .int v8_l2), (0, .ref a0), (1, .ref a1)] → W p l e (headSpec vfX5_worthiestQuestion { frames := 5, cells := 0, slots := 0, locals := 120 }).room s m ([.ref a0, .ref a1]).toArray below meth c H locs 0 0 QQ (F0 m 37 ls [.long v37_t0]) := by
          intro v37_t0 H locs ls h  hP hD hS hl
          rw [f_X5_worthiestQuestion_J37] at h
          refine lv_lstore (lv' := [(6, .long v37_t0), (5, .int v8_l5), (3, .long v8_l3), (2, .int v8_l2), (0, .ref a0), (1, .ref a1)]) hx hb dX5_worthiestQuestion_37 hl (by decide) rfl (fun ls hl => ?_)
          refine lv_lload hx hb dX5_worthiestQuestion_39 (lv_at hl 0 rfl) ?_
          refine lv_lload_n hx hb dX5_worthiestQuestion_41 rfl (lv_at hl 2 rfl) ?_
          refine W.lcmp hx hb dX5_worthiestQuestion_42 ?_
          have J52 : ∀ (v52_l3 : Int64) (v52_l2 : Int32) (H : Heap) (locs : List Loc) (ls : Array Slot), f_X5_worthiestQuestion_J52 (f_X5_worthiestQuestion_L8 p_p n_n n8) v8_l5 v52_l3 v52_l2 = some out → va_P (dC, dI) vwCl (bX4 a1 un kn n_n (bX6 a0 up kp p_p [])) H → va_D A (bX4 a1 un kn n_n (bX6 a0 up kp p_p [])) → va_S A s.heap H locs → lv_has ls 8 [(5, .int v8_l5), (3, .long v52_l3), (2, .int v52_l2), (0, .ref a0), (1, .ref a1)] → W p l e (headSpec vfX5_worthiestQuestion { frames := 5, cells := 0, slots := 0, locals := 120 }).room s m ([.ref a0, .ref a1]).toArray below meth c H locs 0 0 QQ (F0 m 52 ls []) := by
            intro v52_l3 v52_l2 H locs ls h  hP hD hS hl
            rw [f_X5_worthiestQuestion_J52] at h
            refine lv_iinc (v := (v8_l5 + (1 : Int32))) (lv' := [(5, .int (v8_l5 + (1 : Int32))), (3, .long v52_l3), (2, .int v52_l2), (0, .ref a0), (1, .ref a1)]) hx hb dX5_worthiestQuestion_52 hl (k := 0) rfl rfl (by decide) rfl (fun ls hl => ?_)
            refine lv_goto (tgt := 8) hx hb dX5_worthiestQuestion_55 (by decide) ?_
            exact ih8 (v8_l5 + (1 : Int32)) v52_l3 v52_l2 H _ ls h  (hP.sub (ws' := (bX6 a0 up kp p_p (bX4 a1 un kn n_n []))) [5, 6, 7, 8, 9, 10, 11, 12, 13, 14, 0, 1, 2, 3, 4] rfl) (hD.sub (ws' := (bX6 a0 up kp p_p (bX4 a1 un kn n_n []))) [5, 6, 7, 8, 9, 10, 11, 12, 13, 14, 0, 1, 2, 3, 4] (by decide) rfl) hS (lv_sub hl [0, 1, 2, 3, 4] rfl)
          refine lv_if_le (tgt := 52) hx hb dX5_worthiestQuestion_43 (by decide) (fun c43 => ?_) (fun c43 => ?_)
          · have h := (if_pos c43).symm.trans h
            exact J52 v8_l3 v8_l2 H _ ls h  hP hD hS (lv_sub hl [1, 2, 3, 4, 5] rfl)
          · have h := (if_neg c43).symm.trans h
            refine lv_lload hx hb dX5_worthiestQuestion_46 (lv_at hl 0 rfl) ?_
            refine lv_lstore_n (lv' := [(3, .long v37_t0), (6, .long v37_t0), (5, .int v8_l5), (2, .int v8_l2), (0, .ref a0), (1, .ref a1)]) hx hb dX5_worthiestQuestion_48 rfl hl (by decide) rfl (fun ls hl => ?_)
            refine lv_iload hx hb dX5_worthiestQuestion_49 (lv_at hl 2 rfl) ?_
            refine lv_istore_n (lv' := [(2, .int v8_l5), (3, .long v37_t0), (6, .long v37_t0), (5, .int v8_l5), (0, .ref a0), (1, .ref a1)]) hx hb dX5_worthiestQuestion_51 rfl hl (by decide) rfl (fun ls hl => ?_)
            exact J52 v37_t0 v8_l5 H _ ls h  hP hD hS (lv_sub hl [3, 1, 0, 4, 5] rfl)
        refine lv_if_eq (tgt := 36) hx hb dX5_worthiestQuestion_23 (by decide) (fun c23 => ?_) (fun c23 => ?_)
        · have h := (if_pos c23).symm.trans h
          refine lv_lconst (v := 0) hx hb dX5_worthiestQuestion_36 (by decide) ?_
          exact J37 (0 : Int64) H _ ls h  hP hD hS (lv_sub hl [0, 1, 2, 3, 4] rfl)
        · have h := (if_neg c23).symm.trans h
          refine lv_aload_n hx hb dX5_worthiestQuestion_26 rfl (lv_at hl 3 rfl) ?_
          refine lv_aload_n hx hb dX5_worthiestQuestion_27 rfl (lv_at hl 4 rfl) ?_
          refine lv_iload hx hb dX5_worthiestQuestion_28 (lv_at hl 0 rfl) ?_
          obtain ⟨o30, eo30, h⟩ := bd_of h
          refine cl_l (wc := (bX6 a0 up kp p_p (bX4 a1 un kn n_n []))) (wr := []) (va_runS (As := [.ref a0, .ref a1, .int v8_l5]) (rest := []) ⟨hx, hb, hml, hown, hts⟩ (kfX5_meanWorth l dC dI a0 a1 v8_l5 up kp un kn p_p n_n H.size o30 eo30) (va_cwS 3 hts gfX5_worthiestQuestion_2 rfl rfl rfl (by decide +kernel) ⟨(Nat.le_of_ble_eq_true rfl), (Nat.le_of_ble_eq_true rfl)⟩) (PS (hP.sub (ws' := (bX6 a0 up kp p_p (bX4 a1 un kn n_n []))) [5, 6, 7, 8, 9, 10, 11, 12, 13, 14, 0, 1, 2, 3, 4] rfl) (hK.sub (tys' := (tX6 kp (tX4 kn ([])))) [0, 1, 2, 3, 4, 5, 6, 7, 8, 9, 10, 11, 12] rfl) (hD.sub (ws' := (bX6 a0 up kp p_p (bX4 a1 un kn n_n []))) [5, 6, 7, 8, 9, 10, 11, 12, 13, 14, 0, 1, 2, 3, 4] (by decide) rfl) hN) rfl rfl hl.1 rfl (lv_room (Nat.le_of_ble_eq_true rfl)) dX5_worthiestQuestion_30 ⟨(Nat.le_of_ble_eq_true rfl), (Nat.le_of_ble_eq_true rfl)⟩) hP hD hK hS hA [5, 6, 7, 8, 9, 10, 11, 12, 13, 14, 0, 1, 2, 3, 4] [] rfl rfl (by decide) (by decide) (fun r30 _ H locs hw hP hD _ hS => ?_)
          obtain rfl := hw.symm
          have hP : va_P (dC, dI) vwCl (bX6 a0 up kp p_p (bX4 a1 un kn n_n [])) H := hP
          have hD : va_D A (bX6 a0 up kp p_p (bX4 a1 un kn n_n [])) := hD
          refine lv_goto (tgt := 37) hx hb dX5_worthiestQuestion_33 (by decide) ?_
          exact J37 o30 H _ ls h  (hP.sub (ws' := (bX4 a1 un kn n_n (bX6 a0 up kp p_p []))) [10, 11, 12, 13, 14, 0, 1, 2, 3, 4, 5, 6, 7, 8, 9] rfl) (hD.sub (ws' := (bX4 a1 un kn n_n (bX6 a0 up kp p_p []))) [10, 11, 12, 13, 14, 0, 1, 2, 3, 4, 5, 6, 7, 8, 9] (by decide) rfl) hS (lv_sub hl [0, 1, 2, 3, 4] rfl)
  exact L8 FU (0 : Int32) (0 : Int64) (-2 : Int32) s.heap _ ls h  hP hD hS (lv_sub hl [0, 1, 2, 3, 4] rfl)
theorem dX10_best_0 : decode cX10_best 0 = .ok (.aload_n 0, 1) := by decide +kernel
theorem dX10_best_1 : decode cX10_best 1 = .ok (.aload_n 0, 1) := by decide +kernel
theorem dX10_best_11 : decode cX10_best 11 = .ok (.iconst (-1), 1) := by decide +kernel
theorem dX10_best_12 : decode cX10_best 12 = .ok (.ireturn, 1) := by decide +kernel
theorem dX10_best_13 : decode cX10_best 13 = .ok (.aload_n 0, 1) := by decide +kernel
theorem dX10_best_14 : decode cX10_best 14 = .ok (.getfield 10, 3) := by decide +kernel
theorem dX10_best_17 : decode cX10_best 17 = .ok (.aload_n 0, 1) := by decide +kernel
theorem dX10_best_18 : decode cX10_best 18 = .ok (.getfield 29, 3) := by decide +kernel
theorem dX10_best_2 : decode cX10_best 2 = .ok (.invokevirtual 216, 3) := by decide +kernel
theorem dX10_best_21 : decode cX10_best 21 = .ok (.invokestatic 220, 3) := by decide +kernel
theorem dX10_best_24 : decode cX10_best 24 = .ok (.ireturn, 1) := by decide +kernel
theorem dX10_best_5 : decode cX10_best 5 = .ok (.invokevirtual 79, 3) := by decide +kernel
theorem dX10_best_8 : decode cX10_best 8 = .ok (.ifCond .eq 5, 3) := by decide +kernel
def vfX10_best : List Cond := List.cons (.code yX10_best cX10_best 1 (some .int)) (apW [.methodLink RX10 216 yX10_pierTrouble, .instanceMethod yX10_pierTrouble, .selects RX10 yX10_pierTrouble yX10_pierTrouble, .initialized RX10, .methodLink RX10 79 yX10_refused, .instanceMethod yX10_refused, .selects RX10 yX10_refused yX10_refused, .fieldLink RX10 10 "HookPier" "plan" "LHookPier$Plan;", .fieldLink RX10 29 "HookPier" "now" "LHookPier$Now;", .methodLink RX10 220 yX5_worthiestQuestion, .static yX5_worthiestQuestion, .initialized RX5] (apW wsX100 (apW vfX10_pierTrouble (apW vfX10_refused (vfX5_worthiestQuestion)))))
theorem ifX10_best_X10 : ∀ w ∈ wsX100, w ∈ vfX10_best := fun _ h => (List.mem_cons_of_mem _ (List.mem_append_right _ (List.mem_append_left _ h)))
theorem qfX10_best : Good vfX10_best := gd_cons (by decide +kernel) (gd_app (gd_dec (by decide +kernel) : Good [.methodLink RX10 216 yX10_pierTrouble, .instanceMethod yX10_pierTrouble, .selects RX10 yX10_pierTrouble yX10_pierTrouble, .initialized RX10, .methodLink RX10 79 yX10_refused, .instanceMethod yX10_refused, .selects RX10 yX10_refused yX10_refused, .fieldLink RX10 10 "HookPier" "plan" "LHookPier$Plan;", .fieldLink RX10 29 "HookPier" "now" "LHookPier$Now;", .methodLink RX10 220 yX5_worthiestQuestion, .static yX5_worthiestQuestion, .initialized RX5]) (gd_app qsX10 (gd_app qfX10_pierTrouble (gd_app qfX10_refused qfX5_worthiestQuestion))))
theorem gfX10_best_0 : GoodIn vfX10_best (wsV RX10 216 RX10 yX10_pierTrouble vfX10_pierTrouble) := goodIn_app (goodIn_r [.methodLink RX10 216 yX10_pierTrouble, .instanceMethod yX10_pierTrouble, .selects RX10 yX10_pierTrouble yX10_pierTrouble, .initialized RX10] [1, 2, 3, 4] rfl (by decide +kernel)) (goodIn_m (fun _ h => (List.mem_cons_of_mem _ (List.mem_append_right _ (List.mem_append_right _ (List.mem_append_left _ h))))) qfX10_pierTrouble)
theorem gfX10_best_1 : GoodIn vfX10_best (wsV RX10 79 RX10 yX10_refused vfX10_refused) := goodIn_app (goodIn_r [.methodLink RX10 79 yX10_refused, .instanceMethod yX10_refused, .selects RX10 yX10_refused yX10_refused, .initialized RX10] [5, 6, 7, 4] rfl (by decide +kernel)) (goodIn_m (fun _ h => (List.mem_cons_of_mem _ (List.mem_append_right _ (List.mem_append_right _ (List.mem_append_right _ (List.mem_append_left _ h)))))) qfX10_refused)
theorem gfX10_best_2 : GoodIn vfX10_best (va_wsS RX10 220 yX5_worthiestQuestion vfX5_worthiestQuestion) := goodIn_app (goodIn_r [.methodLink RX10 220 yX5_worthiestQuestion, .static yX5_worthiestQuestion, .initialized RX5] [10, 11, 12] rfl (by decide +kernel)) (goodIn_m (fun _ h => (List.mem_cons_of_mem _ (List.mem_append_right _ (List.mem_append_right _ (List.mem_append_right _ (List.mem_append_right _ h)))))) qfX5_worthiestQuestion)
set_option maxHeartbeats 2000000 in
set_option maxRecDepth 100000 in
theorem kfX10_best (l : Launch) (dC : Nat → ClassId) (dI : Nat → Nat → Nat) (a0 : Nat) (a1 : Nat) (a2 : Nat) (up : Nat → Nat) (kp : Nat → ClassId) (un : Nat → Nat) (kn : Nat → ClassId) (x_x : TX10_x) (g8 : Value) (g9 : Value) (g10 : Value) (g11 : Value) (g12 : Value) (g13 : Value) (p_p : TX6_p) (n_n : TX4_n) (sz : Nat) (out : (Int32 × TX10_x)) (h : f_X10_best x_x p_p n_n = some out) : Met l yX10_best vfX10_best ({ frames := 6, cells := 0, slots := 0, locals := 147 }) (PC (dC, dI) [.ref a0] sz ((a0, .inr (7, [.ref a1, g8, g9, .ref a2, g10, g11, g12, g13, .int x_x.1, .int x_x.2])) :: bX6 a1 up kp p_p (bX4 a2 un kn n_n [])) (tX6 kp (tX4 kn ([])))) (va_Qi (S := Unit) (fun (r : Int32) _ => r = out.1) (fun _ t => BC (dC, dI) (va_A ((a0, .inr (7, [.ref a1, g8, g9, .ref a2, g10, g11, g12, g13, .int x_x.1, .int x_x.2])) :: bX6 a1 up kp p_p (bX4 a2 un kn n_n [])) sz) ((a0, .inr (7, [.ref a1, g8, g9, .ref a2, g10, g11, g12, g13, .int out.2.1, .int out.2.2])) :: bX6 a1 up kp p_p (bX4 a2 un kn n_n [])) [] t) (va_A ((a0, .inr (7, [.ref a1, g8, g9, .ref a2, g10, g11, g12, g13, .int x_x.1, .int x_x.2])) :: bX6 a1 up kp p_p (bX4 a2 un kn n_n [])) sz)) 0 0 (va_A ((a0, .inr (7, [.ref a1, g8, g9, .ref a2, g10, g11, g12, g13, .int x_x.1, .int x_x.2])) :: bX6 a1 up kp p_p (bX4 a2 un kn n_n [])) sz) := by
  refine Met.ofW (cc := cX10_best) (maxL := 1) (ret := (some .int)) (by decide) rfl ?_
  intro p e s m args below meth c s₁ B0 hml hv
  obtain ⟨rfl, hsz, hP, hK, hD0, hN⟩ := hv
  have hx := B0.exec
  have hb := B0.bytes
  have hr := B0.returns
  have hts := atoms_spec (ws := vfX10_best) B0.pre
  have hown : s.vm.findClass RX10 = some m.cls := findClass_of_methodNamed B0.named
  have hlocks := B0.notSynchronized
  subst hsz
  have hD := hD0.self (sz := s.heap.size)
  generalize hAe : va_A ((a0, .inr (7, [.ref a1, g8, g9, .ref a2, g10, g11, g12, g13, .int x_x.1, .int x_x.2])) :: bX6 a1 up kp p_p (bX4 a2 un kn n_n [])) s.heap.size = A at hD ⊢
  have hA : ∀ q : Nat, s.heap.size ≤ q → A q := fun q h => by rw [← hAe]; exact Or.inr h
  have hS : va_S A s.heap s.heap [] := va_S.rf
  have hP : va_P (dC, dI) vwCl ((a0, .inr (7, [.ref a1, g8, g9, .ref a2, g10, g11, g12, g13, .int x_x.1, .int x_x.2])) :: bX6 a1 up kp p_p (bX4 a2 un kn n_n [])) s.heap := hP
  have hl := lv_entry ([.ref a0]) (n := 1) (Nat.le_of_ble_eq_true rfl)
  rw [lg_entry_eq]
  generalize (lg_sl ([.ref a0]) ++ List.replicate (1 - (lg_sl ([.ref a0])).length) Slot.unset).toArray = ls at hl ⊢
  have hl : lv_has ls 1 [(0, .ref a0)] := hl
  refine W_q (fun QQ hQQ => ?_)
  rw [f_X10_best] at h
  refine lv_aload_n hx hb dX10_best_0 rfl (lv_at hl 0 rfl) ?_
  refine lv_aload_n hx hb dX10_best_1 rfl (lv_at hl 0 rfl) ?_
  obtain ⟨o2, eo2⟩ : ∃ o, o = f_X10_pierTrouble p_p := ⟨_, rfl⟩
  have h := nm_of h o2 eo2
  refine cl_i (wc := ((a0, .inr (7, [.ref a1, g8, g9, .ref a2, g10, g11, g12, g13, .int x_x.1, .int x_x.2])) :: bX6 a1 up kp p_p [])) (wr := (bX4 a2 un kn n_n [])) (va_runV (As := []) (rest := [.ref a0]) ⟨hx, hb, hml, hown, hts⟩ (kfX10_pierTrouble l dC dI a0 a1 up kp (g8) (g9) (.ref a2) (g10) (g11) (g12) (g13) (.int x_x.1) (.int x_x.2) p_p s.heap.size o2 eo2.symm) (cwV 0 hts gfX10_best_0 rfl rfl rfl (by decide +kernel) ⟨(Nat.le_of_ble_eq_true rfl), (Nat.le_of_ble_eq_true rfl)⟩) (PV (hP.sub (ws' := ((a0, .inr (7, [.ref a1, g8, g9, .ref a2, g10, g11, g12, g13, .int x_x.1, .int x_x.2])) :: bX6 a1 up kp p_p [])) [0, 1, 2, 3, 4, 5, 6, 7, 8, 9, 10] rfl) (hK.sub (tys' := (tX6 kp ([]))) [0, 1, 2, 3, 4, 5, 6, 7, 8] rfl) (hD.sub (ws' := ((a0, .inr (7, [.ref a1, g8, g9, .ref a2, g10, g11, g12, g13, .int x_x.1, .int x_x.2])) :: bX6 a1 up kp p_p [])) [0, 1, 2, 3, 4, 5, 6, 7, 8, 9, 10] (by decide) rfl) hN 0 rfl rfl) rfl rfl hl.1 rfl (lv_room (Nat.le_of_ble_eq_true rfl)) dX10_best_2 ⟨(Nat.le_of_ble_eq_true rfl), (Nat.le_of_ble_eq_true rfl)⟩) hP hD hK hS hA [0, 1, 2, 3, 4, 5, 6, 7, 8, 9, 10] [11, 12, 13, 14, 15] rfl rfl (by decide) (by decide) (fun r2 _ H locs hw hP hD _ hS => ?_)
  obtain rfl := hw.symm
  have hP : va_P (dC, dI) vwCl (bX4 a2 un kn n_n ((a0, .inr (7, [.ref a1, g8, g9, .ref a2, g10, g11, g12, g13, .int x_x.1, .int x_x.2])) :: bX6 a1 up kp p_p [])) H := hP
  have hD : va_D A (bX4 a2 un kn n_n ((a0, .inr (7, [.ref a1, g8, g9, .ref a2, g10, g11, g12, g13, .int x_x.1, .int x_x.2])) :: bX6 a1 up kp p_p [])) := hD
  obtain ⟨o5, eo5⟩ : ∃ o, o = f_X10_refused o2 x_x := ⟨_, rfl⟩
  have h := nm_of h o5 eo5
  refine cl_i (wc := ([(a0, .inr (7, [.ref a1, g8, g9, .ref a2, g10, g11, g12, g13, .int x_x.1, .int x_x.2]))])) (wr := (bX4 a2 un kn n_n (bX6 a1 up kp p_p []))) (va_runV (As := [.int o2]) (rest := []) ⟨hx, hb, hml, hown, hts⟩ (kfX10_refused l dC dI a0 o2 x_x (.ref a1) (g8) (g9) (.ref a2) (g10) (g11) (g12) (g13) H.size o5 eo5.symm) (cwV 1 hts gfX10_best_1 rfl rfl rfl (by decide +kernel) ⟨(Nat.le_of_ble_eq_true rfl), (Nat.le_of_ble_eq_true rfl)⟩) (PV (hP.sub (ws' := ([(a0, .inr (7, [.ref a1, g8, g9, .ref a2, g10, g11, g12, g13, .int x_x.1, .int x_x.2]))])) [5] rfl) (hK.sub (tys' := ([])) [] rfl) (hD.sub (ws' := ([(a0, .inr (7, [.ref a1, g8, g9, .ref a2, g10, g11, g12, g13, .int x_x.1, .int x_x.2]))])) [5] (by decide) rfl) hN 0 rfl rfl) rfl rfl hl.1 rfl (lv_room (Nat.le_of_ble_eq_true rfl)) dX10_best_5 ⟨(Nat.le_of_ble_eq_true rfl), (Nat.le_of_ble_eq_true rfl)⟩) hP hD hK hS hA [5] [0, 1, 2, 3, 4, 6, 7, 8, 9, 10, 11, 12, 13, 14, 15] rfl rfl (by decide) (by decide) (fun r5 _ H locs hw hP hD _ hS => ?_)
  obtain ⟨hw, br5⟩ := hw
  obtain rfl := hw
  have hP : va_P (dC, dI) vwCl (bX4 a2 un kn n_n (bX6 a1 up kp p_p ([(a0, .inr (7, [.ref a1, g8, g9, .ref a2, g10, g11, g12, g13, .int o5.2.1, .int o5.2.2]))]))) H := hP
  have hD : va_D A (bX4 a2 un kn n_n (bX6 a1 up kp p_p ([(a0, .inr (7, [.ref a1, g8, g9, .ref a2, g10, g11, g12, g13, .int o5.2.1, .int o5.2.2]))]))) := hD
  refine lv_if_eq (tgt := 13) hx hb dX10_best_8 (by decide) (fun c8 => ?_) (fun c8 => ?_)
  · have h := (if_pos c8).symm.trans h
    refine lv_aload_n hx hb dX10_best_13 rfl (lv_at hl 0 rfl) ?_
    refine va_get (D := (dC, dI)) (ci := 7) (v := .ref a1) (C := RX10) (T := TX10) (N := 10) hx hb hts ifX10_best_X10 hown hK hP 15 rfl rfl 0 (by decide) (hts (.fieldLink RX10 10 "HookPier" "plan" "LHookPier$Plan;") (List.mem_of_getElem? (i := 8) rfl)) (fun _ h9 => h9) rfl dX10_best_14 ?_
    refine lv_aload_n hx hb dX10_best_17 rfl (lv_at hl 0 rfl) ?_
    refine va_get (D := (dC, dI)) (ci := 7) (v := .ref a2) (C := RX10) (T := TX10) (N := 10) hx hb hts ifX10_best_X10 hown hK hP 15 rfl rfl 3 (by decide) (hts (.fieldLink RX10 29 "HookPier" "now" "LHookPier$Now;") (List.mem_of_getElem? (i := 9) rfl)) (fun _ h9 => h9) rfl dX10_best_18 ?_
    obtain ⟨o21, eo21, h⟩ := bd_of h
    refine cl_i (wc := (bX6 a1 up kp p_p (bX4 a2 un kn n_n []))) (wr := ([(a0, .inr (7, [.ref a1, g8, g9, .ref a2, g10, g11, g12, g13, .int o5.2.1, .int o5.2.2]))])) (va_runS (As := [.ref a1, .ref a2]) (rest := []) ⟨hx, hb, hml, hown, hts⟩ (kfX5_worthiestQuestion l dC dI a1 a2 up kp un kn p_p n_n H.size o21 eo21) (va_cwS 2 hts gfX10_best_2 rfl rfl rfl (by decide +kernel) ⟨(Nat.le_of_ble_eq_true rfl), (Nat.le_of_ble_eq_true rfl)⟩) (PS (hP.sub (ws' := (bX6 a1 up kp p_p (bX4 a2 un kn n_n []))) [5, 6, 7, 8, 9, 10, 11, 12, 13, 14, 0, 1, 2, 3, 4] rfl) (hK.sub (tys' := (tX6 kp (tX4 kn ([])))) [0, 1, 2, 3, 4, 5, 6, 7, 8, 9, 10, 11, 12] rfl) (hD.sub (ws' := (bX6 a1 up kp p_p (bX4 a2 un kn n_n []))) [5, 6, 7, 8, 9, 10, 11, 12, 13, 14, 0, 1, 2, 3, 4] (by decide) rfl) hN) rfl rfl hl.1 rfl (lv_room (Nat.le_of_ble_eq_true rfl)) dX10_best_21 ⟨(Nat.le_of_ble_eq_true rfl), (Nat.le_of_ble_eq_true rfl)⟩) hP hD hK hS hA [5, 6, 7, 8, 9, 10, 11, 12, 13, 14, 0, 1, 2, 3, 4] [15] rfl rfl (by decide) (by decide) (fun r21 _ H locs hw hP hD _ hS => ?_)
    obtain rfl := hw.symm
    have hP : va_P (dC, dI) vwCl ((a0, .inr (7, [.ref a1, g8, g9, .ref a2, g10, g11, g12, g13, .int o5.2.1, .int o5.2.2])) :: bX6 a1 up kp p_p (bX4 a2 un kn n_n [])) H := hP
    have hD : va_D A ((a0, .inr (7, [.ref a1, g8, g9, .ref a2, g10, g11, g12, g13, .int o5.2.1, .int o5.2.2])) :: bX6 a1 up kp p_p (bX4 a2 un kn n_n [])) := hD
    obtain rfl := Option.some.inj h
    have hP9 := hP.sub (ws' := ((a0, .inr (7, [.ref a1, g8, g9, .ref a2, g10, g11, g12, g13, .int o5.2.1, .int o5.2.2])) :: bX6 a1 up kp p_p (bX4 a2 un kn n_n []))) [0, 1, 2, 3, 4, 5, 6, 7, 8, 9, 10, 11, 12, 13, 14, 15] rfl
    have hD9 := hD.sub (ws' := ((a0, .inr (7, [.ref a1, g8, g9, .ref a2, g10, g11, g12, g13, .int o5.2.1, .int o5.2.2])) :: bX6 a1 up kp p_p (bX4 a2 un kn n_n []))) [0, 1, 2, 3, 4, 5, 6, 7, 8, 9, 10, 11, 12, 13, 14, 15] (by decide) rfl
    have hK9 := hK.sub (tys' := []) [] rfl
    rw [hQQ]
    exact W.iret (v := o21) hx hb hr (fun t ht hW => ⟨⟨o21, (), rfl, rfl, by rw [ht]; exact hP9, va_K.moved hW.alike hK9, hD9⟩, hS.F ht⟩) hS.2.2 dX10_best_24
  · have h := (if_neg c8).symm.trans h
    refine lv_iconst (v := (-1)) hx hb dX10_best_11 (by decide) ?_
    obtain rfl := Option.some.inj h
    have hP9 := hP.sub (ws' := ((a0, .inr (7, [.ref a1, g8, g9, .ref a2, g10, g11, g12, g13, .int o5.2.1, .int o5.2.2])) :: bX6 a1 up kp p_p (bX4 a2 un kn n_n []))) [15, 5, 6, 7, 8, 9, 10, 11, 12, 13, 14, 0, 1, 2, 3, 4] rfl
    have hD9 := hD.sub (ws' := ((a0, .inr (7, [.ref a1, g8, g9, .ref a2, g10, g11, g12, g13, .int o5.2.1, .int o5.2.2])) :: bX6 a1 up kp p_p (bX4 a2 un kn n_n []))) [15, 5, 6, 7, 8, 9, 10, 11, 12, 13, 14, 0, 1, 2, 3, 4] (by decide) rfl
    have hK9 := hK.sub (tys' := []) [] rfl
    rw [hQQ]
    exact W.iret (v := (-1 : Int32)) hx hb hr (fun t ht hW => ⟨⟨(-1 : Int32), (), rfl, rfl, by rw [ht]; exact hP9, va_K.moved hW.alike hK9, hD9⟩, hS.F ht⟩) hS.2.2 dX10_best_12
theorem dX10_likers_0 : decode cX10_likers 0 = .ok (.iconst 0, 1) := by decide +kernel
theorem dX10_likers_1 : decode cX10_likers 1 = .ok (.istore_n 2, 1) := by decide +kernel
theorem dX10_likers_12 : decode cX10_likers 12 = .ok (.if_icmp .ge 37, 3) := by decide +kernel
theorem dX10_likers_15 : decode cX10_likers 15 = .ok (.aload_n 0, 1) := by decide +kernel
theorem dX10_likers_16 : decode cX10_likers 16 = .ok (.getfield 29, 3) := by decide +kernel
theorem dX10_likers_19 : decode cX10_likers 19 = .ok (.getfield 125, 3) := by decide +kernel
theorem dX10_likers_2 : decode cX10_likers 2 = .ok (.iconst 0, 1) := by decide +kernel
theorem dX10_likers_22 : decode cX10_likers 22 = .ok (.iload_n 3, 1) := by decide +kernel
theorem dX10_likers_23 : decode cX10_likers 23 = .ok (.iaload, 1) := by decide +kernel
theorem dX10_likers_24 : decode cX10_likers 24 = .ok (.ifCond .ne 19, 3) := by decide +kernel
theorem dX10_likers_27 : decode cX10_likers 27 = .ok (.aload_n 0, 1) := by decide +kernel
theorem dX10_likers_28 : decode cX10_likers 28 = .ok (.getfield 10, 3) := by decide +kernel
theorem dX10_likers_3 : decode cX10_likers 3 = .ok (.istore_n 3, 1) := by decide +kernel
theorem dX10_likers_31 : decode cX10_likers 31 = .ok (.getfield 119, 3) := by decide +kernel
theorem dX10_likers_34 : decode cX10_likers 34 = .ok (.iload_n 3, 1) := by decide +kernel
theorem dX10_likers_35 : decode cX10_likers 35 = .ok (.iaload, 1) := by decide +kernel
theorem dX10_likers_36 : decode cX10_likers 36 = .ok (.iload_n 1, 1) := by decide +kernel
theorem dX10_likers_37 : decode cX10_likers 37 = .ok (.if_icmp .ne 6, 3) := by decide +kernel
theorem dX10_likers_4 : decode cX10_likers 4 = .ok (.iload_n 3, 1) := by decide +kernel
theorem dX10_likers_40 : decode cX10_likers 40 = .ok (.iinc 2 1, 3) := by decide +kernel
theorem dX10_likers_43 : decode cX10_likers 43 = .ok (.iinc 3 1, 3) := by decide +kernel
theorem dX10_likers_46 : decode cX10_likers 46 = .ok (.goto (-42), 3) := by decide +kernel
theorem dX10_likers_49 : decode cX10_likers 49 = .ok (.iload_n 2, 1) := by decide +kernel
theorem dX10_likers_5 : decode cX10_likers 5 = .ok (.aload_n 0, 1) := by decide +kernel
theorem dX10_likers_50 : decode cX10_likers 50 = .ok (.ireturn, 1) := by decide +kernel
theorem dX10_likers_6 : decode cX10_likers 6 = .ok (.getfield 10, 3) := by decide +kernel
theorem dX10_likers_9 : decode cX10_likers 9 = .ok (.getfield 96, 3) := by decide +kernel
def vfX10_likers : List Cond := List.cons (.code yX10_likers cX10_likers 4 (some .int)) (apW [.fieldLink RX10 10 "HookPier" "plan" "LHookPier$Plan;", .fieldLink RX10 96 "HookPier$Plan" "answers" "I", .fieldLink RX10 29 "HookPier" "now" "LHookPier$Now;", .fieldLink RX10 125 "HookPier$Now" "stage" "[I", .fieldLink RX10 119 "HookPier$Plan" "likes" "[I"] (apW wsX100 (apW wsX60 (wsX40))))
theorem ifX10_likers_X10 : ∀ w ∈ wsX100, w ∈ vfX10_likers := fun _ h => (List.mem_cons_of_mem _ (List.mem_append_right _ (List.mem_append_left _ h)))
theorem ifX10_likers_X6 : ∀ w ∈ wsX60, w ∈ vfX10_likers := fun _ h => (List.mem_cons_of_mem _ (List.mem_append_right _ (List.mem_append_right _ (List.mem_append_left _ h))))
theorem ifX10_likers_X4 : ∀ w ∈ wsX40, w ∈ vfX10_likers := fun _ h => (List.mem_cons_of_mem _ (List.mem_append_right _ (List.mem_append_right _ (List.mem_append_right _ h))))
theorem qfX10_likers : Good vfX10_likers := gd_cons (by decide +kernel) (gd_app (gd_dec (by decide +kernel) : Good [.fieldLink RX10 10 "HookPier" "plan" "LHookPier$Plan;", .fieldLink RX10 96 "HookPier$Plan" "answers" "I", .fieldLink RX10 29 "HookPier" "now" "LHookPier$Now;", .fieldLink RX10 125 "HookPier$Now" "stage" "[I", .fieldLink RX10 119 "HookPier$Plan" "likes" "[I"]) (gd_app qsX10 (gd_app qsX6 qsX4)))
set_option maxHeartbeats 2000000 in
set_option maxRecDepth 100000 in
theorem kfX10_likers (l : Launch) (dC : Nat → ClassId) (dI : Nat → Nat → Nat) (a0 : Nat) (k1 : Int32) (a2 : Nat) (a3 : Nat) (up : Nat → Nat) (kp : Nat → ClassId) (un : Nat → Nat) (kn : Nat → ClassId) (g8 : Value) (g9 : Value) (g10 : Value) (g11 : Value) (g12 : Value) (g13 : Value) (g14 : Value) (g15 : Value) (p_p : TX6_p) (n_n : TX4_n) (sz : Nat) (out : Int32) (h : f_X10_likers k1 p_p n_n = some out) : Met l yX10_likers vfX10_likers ({ frames := 0, cells := 0, slots := 0, locals := 0 }) (PC (dC, dI) [.ref a0, .int k1] sz ((a0, .inr (7, [.ref a2, g8, g9, .ref a3, g10, g11, g12, g13, g14, g15])) :: bX6 a2 up kp p_p (bX4 a3 un kn n_n [])) (tX6 kp (tX4 kn ([])))) (va_Qi (S := Unit) (fun (r : Int32) _ => r = out) (fun _ t => BC (dC, dI) (va_A ((a0, .inr (7, [.ref a2, g8, g9, .ref a3, g10, g11, g12, g13, g14, g15])) :: bX6 a2 up kp p_p (bX4 a3 un kn n_n [])) sz) ((a0, .inr (7, [.ref a2, g8, g9, .ref a3, g10, g11, g12, g13, g14, g15])) :: bX6 a2 up kp p_p (bX4 a3 un kn n_n [])) [] t) (va_A ((a0, .inr (7, [.ref a2, g8, g9, .ref a3, g10, g11, g12, g13, g14, g15])) :: bX6 a2 up kp p_p (bX4 a3 un kn n_n [])) sz)) 0 0 (va_A ((a0, .inr (7, [.ref a2, g8, g9, .ref a3, g10, g11, g12, g13, g14, g15])) :: bX6 a2 up kp p_p (bX4 a3 un kn n_n [])) sz) := by
  refine Met.ofW (cc := cX10_likers) (maxL := 4) (ret := (some .int)) (by decide) rfl ?_
  intro p e s m args below meth c s₁ B0 hml hv
  obtain ⟨rfl, hsz, hP, hK, hD0, hN⟩ := hv
  have hx := B0.exec
  have hb := B0.bytes
  have hr := B0.returns
  have hts := atoms_spec (ws := vfX10_likers) B0.pre
  have hown : s.vm.findClass RX10 = some m.cls := findClass_of_methodNamed B0.named
  have hlocks := B0.notSynchronized
  subst hsz
  have hD := hD0.self (sz := s.heap.size)
  generalize hAe : va_A ((a0, .inr (7, [.ref a2, g8, g9, .ref a3, g10, g11, g12, g13, g14, g15])) :: bX6 a2 up kp p_p (bX4 a3 un kn n_n [])) s.heap.size = A at hD ⊢
  have hA : ∀ q : Nat, s.heap.size ≤ q → A q := fun q h => by rw [← hAe]; exact Or.inr h
  have hS : va_S A s.heap s.heap [] := va_S.rf
  have hP : va_P (dC, dI) vwCl ((a0, .inr (7, [.ref a2, g8, g9, .ref a3, g10, g11, g12, g13, g14, g15])) :: bX6 a2 up kp p_p (bX4 a3 un kn n_n [])) s.heap := hP
  have hl := lv_entry ([.ref a0, .int k1]) (n := 4) (Nat.le_of_ble_eq_true rfl)
  rw [lg_entry_eq]
  generalize (lg_sl ([.ref a0, .int k1]) ++ List.replicate (4 - (lg_sl ([.ref a0, .int k1])).length) Slot.unset).toArray = ls at hl ⊢
  have hl : lv_has ls 4 [(0, .ref a0), (1, .int k1)] := hl
  refine W_q (fun QQ hQQ => ?_)
  rw [f_X10_likers] at h
  refine lv_iconst (v := 0) hx hb dX10_likers_0 (by decide) ?_
  refine lv_istore_n (lv' := [(2, .int 0), (0, .ref a0), (1, .int k1)]) hx hb dX10_likers_1 rfl hl (by decide) rfl (fun ls hl => ?_)
  refine lv_iconst (v := 0) hx hb dX10_likers_2 (by decide) ?_
  refine lv_istore_n (lv' := [(3, .int 0), (2, .int 0), (0, .ref a0), (1, .int k1)]) hx hb dX10_likers_3 rfl hl (by decide) rfl (fun ls hl => ?_)
  have L4 : ∀ (n4 : Nat) (v4_l3 : Int32) (v4_l2 : Int32) (H : Heap) (locs : List Loc) (ls : Array Slot), f_X10_likers_L4 k1 p_p n_n n4 v4_l3 v4_l2 = some out → va_P (dC, dI) vwCl ((a0, .inr (7, [.ref a2, g8, g9, .ref a3, g10, g11, g12, g13, g14, g15])) :: bX6 a2 up kp p_p (bX4 a3 un kn n_n [])) H → va_D A ((a0, .inr (7, [.ref a2, g8, g9, .ref a3, g10, g11, g12, g13, g14, g15])) :: bX6 a2 up kp p_p (bX4 a3 un kn n_n [])) → va_S A s.heap H locs → lv_has ls 4 [(3, .int v4_l3), (2, .int v4_l2), (0, .ref a0), (1, .int k1)] → W p l e (headSpec vfX10_likers { frames := 0, cells := 0, slots := 0, locals := 0 }).room s m ([.ref a0, .int k1]).toArray below meth c H locs 0 0 QQ (F0 m 4 ls []) := by
    intro n4
    induction n4 with
    | zero =>
      intro v4_l3 v4_l2 H locs ls h  _ _ _ _
      rw [f_X10_likers_L4] at h
      cases h
    | succ n4 ih4 =>
      intro v4_l3 v4_l2 H locs ls h  hP hD hS hl
      rw [f_X10_likers_L4] at h
      refine lv_iload_n hx hb dX10_likers_4 rfl (lv_at hl 0 rfl) ?_
      refine lv_aload_n hx hb dX10_likers_5 rfl (lv_at hl 2 rfl) ?_
      refine va_get (D := (dC, dI)) (ci := 7) (v := .ref a2) (C := RX10) (T := TX10) (N := 10) hx hb hts ifX10_likers_X10 hown hK hP 0 rfl rfl 0 (by decide) (hts (.fieldLink RX10 10 "HookPier" "plan" "LHookPier$Plan;") (List.mem_of_getElem? (i := 1) rfl)) (fun _ h9 => h9) rfl dX10_likers_6 ?_
      refine va_get (D := (dC, dI)) (ci := 4) (v := .int p_p.2.2.2.2.2.2.1) (C := RX6) (T := TX6) (N := 18) hx hb hts ifX10_likers_X6 hown hK hP 1 rfl rfl 6 (by decide) (hts (.fieldLink RX10 96 "HookPier$Plan" "answers" "I") (List.mem_of_getElem? (i := 2) rfl)) (fun _ h9 => h9) rfl dX10_likers_9 ?_
      refine lv_icmp_ge (tgt := 49) hx hb dX10_likers_12 (by decide) (fun c12 => ?_) (fun c12 => ?_)
      · have h := (if_pos c12).symm.trans h
        refine lv_iload_n hx hb dX10_likers_49 rfl (lv_at hl 1 rfl) ?_
        obtain rfl := Option.some.inj h
        have hP9 := hP.sub (ws' := ((a0, .inr (7, [.ref a2, g8, g9, .ref a3, g10, g11, g12, g13, g14, g15])) :: bX6 a2 up kp p_p (bX4 a3 un kn n_n []))) [0, 1, 2, 3, 4, 5, 6, 7, 8, 9, 10, 11, 12, 13, 14, 15] rfl
        have hD9 := hD.sub (ws' := ((a0, .inr (7, [.ref a2, g8, g9, .ref a3, g10, g11, g12, g13, g14, g15])) :: bX6 a2 up kp p_p (bX4 a3 un kn n_n []))) [0, 1, 2, 3, 4, 5, 6, 7, 8, 9, 10, 11, 12, 13, 14, 15] (by decide) rfl
        have hK9 := hK.sub (tys' := []) [] rfl
        rw [hQQ]
        exact W.iret (v := v4_l2) hx hb hr (fun t ht hW => ⟨⟨v4_l2, (), rfl, rfl, by rw [ht]; exact hP9, va_K.moved hW.alike hK9, hD9⟩, hS.F ht⟩) hS.2.2 dX10_likers_50
      · have h := (if_neg c12).symm.trans h
        refine lv_aload_n hx hb dX10_likers_15 rfl (lv_at hl 2 rfl) ?_
        refine va_get (D := (dC, dI)) (ci := 7) (v := .ref a3) (C := RX10) (T := TX10) (N := 10) hx hb hts ifX10_likers_X10 hown hK hP 0 rfl rfl 3 (by decide) (hts (.fieldLink RX10 29 "HookPier" "now" "LHookPier$Now;") (List.mem_of_getElem? (i := 3) rfl)) (fun _ h9 => h9) rfl dX10_likers_16 ?_
        refine va_get (D := (dC, dI)) (ci := 3) (v := .ref (un 0)) (C := RX4) (T := TX4) (N := 7) hx hb hts ifX10_likers_X4 hown hK hP 11 rfl rfl 3 (by decide) (hts (.fieldLink RX10 125 "HookPier$Now" "stage" "[I") (List.mem_of_getElem? (i := 4) rfl)) (fun _ h9 => h9) rfl dX10_likers_19 ?_
        refine lv_iload_n hx hb dX10_likers_22 rfl (lv_at hl 0 rfl) ?_
        obtain ⟨hg23, h⟩ := gA_of h
        refine va_iald hx hb hK hP 12 9 rfl rfl hg23 dX10_likers_23 ?_
        have J43 : ∀ (v43_l2 : Int32) (H : Heap) (locs : List Loc) (ls : Array Slot), f_X10_likers_J43 (f_X10_likers_L4 k1 p_p n_n n4) v4_l3 v43_l2 = some out → va_P (dC, dI) vwCl ((a0, .inr (7, [.ref a2, g8, g9, .ref a3, g10, g11, g12, g13, g14, g15])) :: bX6 a2 up kp p_p (bX4 a3 un kn n_n [])) H → va_D A ((a0, .inr (7, [.ref a2, g8, g9, .ref a3, g10, g11, g12, g13, g14, g15])) :: bX6 a2 up kp p_p (bX4 a3 un kn n_n [])) → va_S A s.heap H locs → lv_has ls 4 [(3, .int v4_l3), (2, .int v43_l2), (0, .ref a0), (1, .int k1)] → W p l e (headSpec vfX10_likers { frames := 0, cells := 0, slots := 0, locals := 0 }).room s m ([.ref a0, .int k1]).toArray below meth c H locs 0 0 QQ (F0 m 43 ls []) := by
          intro v43_l2 H locs ls h  hP hD hS hl
          rw [f_X10_likers_J43] at h
          refine lv_iinc (v := (v4_l3 + (1 : Int32))) (lv' := [(3, .int (v4_l3 + (1 : Int32))), (2, .int v43_l2), (0, .ref a0), (1, .int k1)]) hx hb dX10_likers_43 hl (k := 0) rfl rfl (by decide) rfl (fun ls hl => ?_)
          refine lv_goto (tgt := 4) hx hb dX10_likers_46 (by decide) ?_
          exact ih4 (v4_l3 + (1 : Int32)) v43_l2 H _ ls h  hP hD hS (lv_sub hl [0, 1, 2, 3] rfl)
        refine lv_if_ne (tgt := 43) hx hb dX10_likers_24 (by decide) (fun c24 => ?_) (fun c24 => ?_)
        · have h := (if_neg c24).symm.trans h
          exact J43 v4_l2 H _ ls h  hP hD hS (lv_sub hl [0, 1, 2, 3] rfl)
        · have h := (if_pos c24).symm.trans h
          refine lv_aload_n hx hb dX10_likers_27 rfl (lv_at hl 2 rfl) ?_
          refine va_get (D := (dC, dI)) (ci := 7) (v := .ref a2) (C := RX10) (T := TX10) (N := 10) hx hb hts ifX10_likers_X10 hown hK hP 0 rfl rfl 0 (by decide) (hts (.fieldLink RX10 10 "HookPier" "plan" "LHookPier$Plan;") (List.mem_of_getElem? (i := 1) rfl)) (fun _ h9 => h9) rfl dX10_likers_28 ?_
          refine va_get (D := (dC, dI)) (ci := 4) (v := .ref (up 5)) (C := RX6) (T := TX6) (N := 18) hx hb hts ifX10_likers_X6 hown hK hP 1 rfl rfl 14 (by decide) (hts (.fieldLink RX10 119 "HookPier$Plan" "likes" "[I") (List.mem_of_getElem? (i := 5) rfl)) (fun _ h9 => h9) rfl dX10_likers_31 ?_
          refine lv_iload_n hx hb dX10_likers_34 rfl (lv_at hl 0 rfl) ?_
          obtain ⟨hg35, h⟩ := gA_of h
          refine va_iald hx hb hK hP 7 5 rfl rfl hg35 dX10_likers_35 ?_
          refine lv_iload_n hx hb dX10_likers_36 rfl (lv_at hl 3 rfl) ?_
          refine lv_icmp_ne (tgt := 43) hx hb dX10_likers_37 (by decide) (fun c37 => ?_) (fun c37 => ?_)
          · have h := (if_neg c37).symm.trans h
            exact J43 v4_l2 H _ ls h  hP hD hS (lv_sub hl [0, 1, 2, 3] rfl)
          · have h := (if_pos c37).symm.trans h
            refine lv_iinc (v := (v4_l2 + (1 : Int32))) (lv' := [(2, .int (v4_l2 + (1 : Int32))), (3, .int v4_l3), (0, .ref a0), (1, .int k1)]) hx hb dX10_likers_40 hl (k := 1) rfl rfl (by decide) rfl (fun ls hl => ?_)
            exact J43 (v4_l2 + (1 : Int32)) H _ ls h  hP hD hS (lv_sub hl [1, 0, 2, 3] rfl)
  exact L4 FU (0 : Int32) (0 : Int32) s.heap _ ls h  hP hD hS (lv_sub hl [0, 1, 2, 3] rfl)
theorem dX10_bestBait_0 : decode cX10_bestBait 0 = .ok (.aload_n 0, 1) := by decide +kernel
theorem dX10_bestBait_1 : decode cX10_bestBait 1 = .ok (.aload_n 0, 1) := by decide +kernel
theorem dX10_bestBait_11 : decode cX10_bestBait 11 = .ok (.iconst (-1), 1) := by decide +kernel
theorem dX10_bestBait_12 : decode cX10_bestBait 12 = .ok (.ireturn, 1) := by decide +kernel
theorem dX10_bestBait_13 : decode cX10_bestBait 13 = .ok (.iconst 0, 1) := by decide +kernel
theorem dX10_bestBait_14 : decode cX10_bestBait 14 = .ok (.istore_n 1, 1) := by decide +kernel
theorem dX10_bestBait_15 : decode cX10_bestBait 15 = .ok (.iconst 1, 1) := by decide +kernel
theorem dX10_bestBait_16 : decode cX10_bestBait 16 = .ok (.istore_n 2, 1) := by decide +kernel
theorem dX10_bestBait_17 : decode cX10_bestBait 17 = .ok (.iload_n 2, 1) := by decide +kernel
theorem dX10_bestBait_18 : decode cX10_bestBait 18 = .ok (.aload_n 0, 1) := by decide +kernel
theorem dX10_bestBait_19 : decode cX10_bestBait 19 = .ok (.getfield 10, 3) := by decide +kernel
theorem dX10_bestBait_2 : decode cX10_bestBait 2 = .ok (.invokevirtual 216, 3) := by decide +kernel
theorem dX10_bestBait_22 : decode cX10_bestBait 22 = .ok (.getfield 224, 3) := by decide +kernel
theorem dX10_bestBait_25 : decode cX10_bestBait 25 = .ok (.if_icmp .ge 24, 3) := by decide +kernel
theorem dX10_bestBait_28 : decode cX10_bestBait 28 = .ok (.aload_n 0, 1) := by decide +kernel
theorem dX10_bestBait_29 : decode cX10_bestBait 29 = .ok (.iload_n 2, 1) := by decide +kernel
theorem dX10_bestBait_30 : decode cX10_bestBait 30 = .ok (.invokevirtual 227, 3) := by decide +kernel
theorem dX10_bestBait_33 : decode cX10_bestBait 33 = .ok (.aload_n 0, 1) := by decide +kernel
theorem dX10_bestBait_34 : decode cX10_bestBait 34 = .ok (.iload_n 1, 1) := by decide +kernel
theorem dX10_bestBait_35 : decode cX10_bestBait 35 = .ok (.invokevirtual 227, 3) := by decide +kernel
theorem dX10_bestBait_38 : decode cX10_bestBait 38 = .ok (.if_icmp .le 5, 3) := by decide +kernel
theorem dX10_bestBait_41 : decode cX10_bestBait 41 = .ok (.iload_n 2, 1) := by decide +kernel
theorem dX10_bestBait_42 : decode cX10_bestBait 42 = .ok (.istore_n 1, 1) := by decide +kernel
theorem dX10_bestBait_43 : decode cX10_bestBait 43 = .ok (.iinc 2 1, 3) := by decide +kernel
theorem dX10_bestBait_46 : decode cX10_bestBait 46 = .ok (.goto (-29), 3) := by decide +kernel
theorem dX10_bestBait_49 : decode cX10_bestBait 49 = .ok (.iload_n 1, 1) := by decide +kernel
theorem dX10_bestBait_5 : decode cX10_bestBait 5 = .ok (.invokevirtual 79, 3) := by decide +kernel
theorem dX10_bestBait_50 : decode cX10_bestBait 50 = .ok (.ireturn, 1) := by decide +kernel
theorem dX10_bestBait_8 : decode cX10_bestBait 8 = .ok (.ifCond .eq 5, 3) := by decide +kernel
def vfX10_bestBait : List Cond := List.cons (.code yX10_bestBait cX10_bestBait 3 (some .int)) (apW [.methodLink RX10 216 yX10_pierTrouble, .instanceMethod yX10_pierTrouble, .selects RX10 yX10_pierTrouble yX10_pierTrouble, .initialized RX10, .methodLink RX10 79 yX10_refused, .instanceMethod yX10_refused, .selects RX10 yX10_refused yX10_refused, .fieldLink RX10 10 "HookPier" "plan" "LHookPier$Plan;", .fieldLink RX10 224 "HookPier$Plan" "baits" "I", .methodLink RX10 227 yX10_likers, .instanceMethod yX10_likers, .selects RX10 yX10_likers yX10_likers] (apW wsX100 (apW wsX60 (apW vfX10_pierTrouble (apW vfX10_refused (vfX10_likers))))))
theorem ifX10_bestBait_X10 : ∀ w ∈ wsX100, w ∈ vfX10_bestBait := fun _ h => (List.mem_cons_of_mem _ (List.mem_append_right _ (List.mem_append_left _ h)))
theorem ifX10_bestBait_X6 : ∀ w ∈ wsX60, w ∈ vfX10_bestBait := fun _ h => (List.mem_cons_of_mem _ (List.mem_append_right _ (List.mem_append_right _ (List.mem_append_left _ h))))
theorem qfX10_bestBait : Good vfX10_bestBait := gd_cons (by decide +kernel) (gd_app (gd_dec (by decide +kernel) : Good [.methodLink RX10 216 yX10_pierTrouble, .instanceMethod yX10_pierTrouble, .selects RX10 yX10_pierTrouble yX10_pierTrouble, .initialized RX10, .methodLink RX10 79 yX10_refused, .instanceMethod yX10_refused, .selects RX10 yX10_refused yX10_refused, .fieldLink RX10 10 "HookPier" "plan" "LHookPier$Plan;", .fieldLink RX10 224 "HookPier$Plan" "baits" "I", .methodLink RX10 227 yX10_likers, .instanceMethod yX10_likers, .selects RX10 yX10_likers yX10_likers]) (gd_app qsX10 (gd_app qsX6 (gd_app qfX10_pierTrouble (gd_app qfX10_refused qfX10_likers)))))
theorem gfX10_bestBait_0 : GoodIn vfX10_bestBait (wsV RX10 216 RX10 yX10_pierTrouble vfX10_pierTrouble) := goodIn_app (goodIn_r [.methodLink RX10 216 yX10_pierTrouble, .instanceMethod yX10_pierTrouble, .selects RX10 yX10_pierTrouble yX10_pierTrouble, .initialized RX10] [1, 2, 3, 4] rfl (by decide +kernel)) (goodIn_m (fun _ h => (List.mem_cons_of_mem _ (List.mem_append_right _ (List.mem_append_right _ (List.mem_append_right _ (List.mem_append_left _ h)))))) qfX10_pierTrouble)
theorem gfX10_bestBait_1 : GoodIn vfX10_bestBait (wsV RX10 79 RX10 yX10_refused vfX10_refused) := goodIn_app (goodIn_r [.methodLink RX10 79 yX10_refused, .instanceMethod yX10_refused, .selects RX10 yX10_refused yX10_refused, .initialized RX10] [5, 6, 7, 4] rfl (by decide +kernel)) (goodIn_m (fun _ h => (List.mem_cons_of_mem _ (List.mem_append_right _ (List.mem_append_right _ (List.mem_append_right _ (List.mem_append_right _ (List.mem_append_left _ h))))))) qfX10_refused)
theorem gfX10_bestBait_2 : GoodIn vfX10_bestBait (wsV RX10 227 RX10 yX10_likers vfX10_likers) := goodIn_app (goodIn_r [.methodLink RX10 227 yX10_likers, .instanceMethod yX10_likers, .selects RX10 yX10_likers yX10_likers, .initialized RX10] [10, 11, 12, 4] rfl (by decide +kernel)) (goodIn_m (fun _ h => (List.mem_cons_of_mem _ (List.mem_append_right _ (List.mem_append_right _ (List.mem_append_right _ (List.mem_append_right _ (List.mem_append_right _ h))))))) qfX10_likers)
set_option maxHeartbeats 2000000 in
set_option maxRecDepth 100000 in
theorem kfX10_bestBait (l : Launch) (dC : Nat → ClassId) (dI : Nat → Nat → Nat) (a0 : Nat) (a1 : Nat) (a2 : Nat) (up : Nat → Nat) (kp : Nat → ClassId) (un : Nat → Nat) (kn : Nat → ClassId) (x_x : TX10_x) (g8 : Value) (g9 : Value) (g10 : Value) (g11 : Value) (g12 : Value) (g13 : Value) (p_p : TX6_p) (n_n : TX4_n) (sz : Nat) (out : (Int32 × TX10_x)) (h : f_X10_bestBait x_x p_p n_n = some out) : Met l yX10_bestBait vfX10_bestBait ({ frames := 1, cells := 0, slots := 0, locals := 23 }) (PC (dC, dI) [.ref a0] sz ((a0, .inr (7, [.ref a1, g8, g9, .ref a2, g10, g11, g12, g13, .int x_x.1, .int x_x.2])) :: bX6 a1 up kp p_p (bX4 a2 un kn n_n [])) (tX6 kp (tX4 kn ([])))) (va_Qi (S := Unit) (fun (r : Int32) _ => r = out.1) (fun _ t => BC (dC, dI) (va_A ((a0, .inr (7, [.ref a1, g8, g9, .ref a2, g10, g11, g12, g13, .int x_x.1, .int x_x.2])) :: bX6 a1 up kp p_p (bX4 a2 un kn n_n [])) sz) ((a0, .inr (7, [.ref a1, g8, g9, .ref a2, g10, g11, g12, g13, .int out.2.1, .int out.2.2])) :: bX6 a1 up kp p_p (bX4 a2 un kn n_n [])) [] t) (va_A ((a0, .inr (7, [.ref a1, g8, g9, .ref a2, g10, g11, g12, g13, .int x_x.1, .int x_x.2])) :: bX6 a1 up kp p_p (bX4 a2 un kn n_n [])) sz)) 0 0 (va_A ((a0, .inr (7, [.ref a1, g8, g9, .ref a2, g10, g11, g12, g13, .int x_x.1, .int x_x.2])) :: bX6 a1 up kp p_p (bX4 a2 un kn n_n [])) sz) := by
  refine Met.ofW (cc := cX10_bestBait) (maxL := 3) (ret := (some .int)) (by decide) rfl ?_
  intro p e s m args below meth c s₁ B0 hml hv
  obtain ⟨rfl, hsz, hP, hK, hD0, hN⟩ := hv
  have hx := B0.exec
  have hb := B0.bytes
  have hr := B0.returns
  have hts := atoms_spec (ws := vfX10_bestBait) B0.pre
  have hown : s.vm.findClass RX10 = some m.cls := findClass_of_methodNamed B0.named
  have hlocks := B0.notSynchronized
  subst hsz
  have hD := hD0.self (sz := s.heap.size)
  generalize hAe : va_A ((a0, .inr (7, [.ref a1, g8, g9, .ref a2, g10, g11, g12, g13, .int x_x.1, .int x_x.2])) :: bX6 a1 up kp p_p (bX4 a2 un kn n_n [])) s.heap.size = A at hD ⊢
  have hA : ∀ q : Nat, s.heap.size ≤ q → A q := fun q h => by rw [← hAe]; exact Or.inr h
  have hS : va_S A s.heap s.heap [] := va_S.rf
  have hP : va_P (dC, dI) vwCl ((a0, .inr (7, [.ref a1, g8, g9, .ref a2, g10, g11, g12, g13, .int x_x.1, .int x_x.2])) :: bX6 a1 up kp p_p (bX4 a2 un kn n_n [])) s.heap := hP
  have hl := lv_entry ([.ref a0]) (n := 3) (Nat.le_of_ble_eq_true rfl)
  rw [lg_entry_eq]
  generalize (lg_sl ([.ref a0]) ++ List.replicate (3 - (lg_sl ([.ref a0])).length) Slot.unset).toArray = ls at hl ⊢
  have hl : lv_has ls 3 [(0, .ref a0)] := hl
  refine W_q (fun QQ hQQ => ?_)
  rw [f_X10_bestBait] at h
  refine lv_aload_n hx hb dX10_bestBait_0 rfl (lv_at hl 0 rfl) ?_
  refine lv_aload_n hx hb dX10_bestBait_1 rfl (lv_at hl 0 rfl) ?_
  obtain ⟨o2, eo2⟩ : ∃ o, o = f_X10_pierTrouble p_p := ⟨_, rfl⟩
  have h := nm_of h o2 eo2
  refine cl_i (wc := ((a0, .inr (7, [.ref a1, g8, g9, .ref a2, g10, g11, g12, g13, .int x_x.1, .int x_x.2])) :: bX6 a1 up kp p_p [])) (wr := (bX4 a2 un kn n_n [])) (va_runV (As := []) (rest := [.ref a0]) ⟨hx, hb, hml, hown, hts⟩ (kfX10_pierTrouble l dC dI a0 a1 up kp (g8) (g9) (.ref a2) (g10) (g11) (g12) (g13) (.int x_x.1) (.int x_x.2) p_p s.heap.size o2 eo2.symm) (cwV 0 hts gfX10_bestBait_0 rfl rfl rfl (by decide +kernel) ⟨(Nat.le_of_ble_eq_true rfl), (Nat.le_of_ble_eq_true rfl)⟩) (PV (hP.sub (ws' := ((a0, .inr (7, [.ref a1, g8, g9, .ref a2, g10, g11, g12, g13, .int x_x.1, .int x_x.2])) :: bX6 a1 up kp p_p [])) [0, 1, 2, 3, 4, 5, 6, 7, 8, 9, 10] rfl) (hK.sub (tys' := (tX6 kp ([]))) [0, 1, 2, 3, 4, 5, 6, 7, 8] rfl) (hD.sub (ws' := ((a0, .inr (7, [.ref a1, g8, g9, .ref a2, g10, g11, g12, g13, .int x_x.1, .int x_x.2])) :: bX6 a1 up kp p_p [])) [0, 1, 2, 3, 4, 5, 6, 7, 8, 9, 10] (by decide) rfl) hN 0 rfl rfl) rfl rfl hl.1 rfl (lv_room (Nat.le_of_ble_eq_true rfl)) dX10_bestBait_2 ⟨(Nat.le_of_ble_eq_true rfl), (Nat.le_of_ble_eq_true rfl)⟩) hP hD hK hS hA [0, 1, 2, 3, 4, 5, 6, 7, 8, 9, 10] [11, 12, 13, 14, 15] rfl rfl (by decide) (by decide) (fun r2 _ H locs hw hP hD _ hS => ?_)
  obtain rfl := hw.symm
  have hP : va_P (dC, dI) vwCl (bX4 a2 un kn n_n ((a0, .inr (7, [.ref a1, g8, g9, .ref a2, g10, g11, g12, g13, .int x_x.1, .int x_x.2])) :: bX6 a1 up kp p_p [])) H := hP
  have hD : va_D A (bX4 a2 un kn n_n ((a0, .inr (7, [.ref a1, g8, g9, .ref a2, g10, g11, g12, g13, .int x_x.1, .int x_x.2])) :: bX6 a1 up kp p_p [])) := hD
  obtain ⟨o5, eo5⟩ : ∃ o, o = f_X10_refused o2 x_x := ⟨_, rfl⟩
  have h := nm_of h o5 eo5
  refine cl_i (wc := ([(a0, .inr (7, [.ref a1, g8, g9, .ref a2, g10, g11, g12, g13, .int x_x.1, .int x_x.2]))])) (wr := (bX4 a2 un kn n_n (bX6 a1 up kp p_p []))) (va_runV (As := [.int o2]) (rest := []) ⟨hx, hb, hml, hown, hts⟩ (kfX10_refused l dC dI a0 o2 x_x (.ref a1) (g8) (g9) (.ref a2) (g10) (g11) (g12) (g13) H.size o5 eo5.symm) (cwV 1 hts gfX10_bestBait_1 rfl rfl rfl (by decide +kernel) ⟨(Nat.le_of_ble_eq_true rfl), (Nat.le_of_ble_eq_true rfl)⟩) (PV (hP.sub (ws' := ([(a0, .inr (7, [.ref a1, g8, g9, .ref a2, g10, g11, g12, g13, .int x_x.1, .int x_x.2]))])) [5] rfl) (hK.sub (tys' := ([])) [] rfl) (hD.sub (ws' := ([(a0, .inr (7, [.ref a1, g8, g9, .ref a2, g10, g11, g12, g13, .int x_x.1, .int x_x.2]))])) [5] (by decide) rfl) hN 0 rfl rfl) rfl rfl hl.1 rfl (lv_room (Nat.le_of_ble_eq_true rfl)) dX10_bestBait_5 ⟨(Nat.le_of_ble_eq_true rfl), (Nat.le_of_ble_eq_true rfl)⟩) hP hD hK hS hA [5] [0, 1, 2, 3, 4, 6, 7, 8, 9, 10, 11, 12, 13, 14, 15] rfl rfl (by decide) (by decide) (fun r5 _ H locs hw hP hD _ hS => ?_)
  obtain ⟨hw, br5⟩ := hw
  obtain rfl := hw
  have hP : va_P (dC, dI) vwCl (bX4 a2 un kn n_n (bX6 a1 up kp p_p ([(a0, .inr (7, [.ref a1, g8, g9, .ref a2, g10, g11, g12, g13, .int o5.2.1, .int o5.2.2]))]))) H := hP
  have hD : va_D A (bX4 a2 un kn n_n (bX6 a1 up kp p_p ([(a0, .inr (7, [.ref a1, g8, g9, .ref a2, g10, g11, g12, g13, .int o5.2.1, .int o5.2.2]))]))) := hD
  refine lv_if_eq (tgt := 13) hx hb dX10_bestBait_8 (by decide) (fun c8 => ?_) (fun c8 => ?_)
  · have h := (if_pos c8).symm.trans h
    refine lv_iconst (v := 0) hx hb dX10_bestBait_13 (by decide) ?_
    refine lv_istore_n (lv' := [(1, .int 0), (0, .ref a0)]) hx hb dX10_bestBait_14 rfl hl (by decide) rfl (fun ls hl => ?_)
    refine lv_iconst (v := 1) hx hb dX10_bestBait_15 (by decide) ?_
    refine lv_istore_n (lv' := [(2, .int 1), (1, .int 0), (0, .ref a0)]) hx hb dX10_bestBait_16 rfl hl (by decide) rfl (fun ls hl => ?_)
    have L17 : ∀ (n17 : Nat) (v17_l2 : Int32) (v17_l1 : Int32) (H : Heap) (locs : List Loc) (ls : Array Slot), f_X10_bestBait_L17 p_p n_n o5 n17 v17_l2 v17_l1 = some out → va_P (dC, dI) vwCl (bX4 a2 un kn n_n (bX6 a1 up kp p_p ([(a0, .inr (7, [.ref a1, g8, g9, .ref a2, g10, g11, g12, g13, .int o5.2.1, .int o5.2.2]))]))) H → va_D A (bX4 a2 un kn n_n (bX6 a1 up kp p_p ([(a0, .inr (7, [.ref a1, g8, g9, .ref a2, g10, g11, g12, g13, .int o5.2.1, .int o5.2.2]))]))) → va_S A s.heap H locs → lv_has ls 3 [(2, .int v17_l2), (1, .int v17_l1), (0, .ref a0)] → W p l e (headSpec vfX10_bestBait { frames := 1, cells := 0, slots := 0, locals := 23 }).room s m ([.ref a0]).toArray below meth c H locs 0 0 QQ (F0 m 17 ls []) := by
      intro n17
      induction n17 with
      | zero =>
        intro v17_l2 v17_l1 H locs ls h  _ _ _ _
        rw [f_X10_bestBait_L17] at h
        cases h
      | succ n17 ih17 =>
        intro v17_l2 v17_l1 H locs ls h  hP hD hS hl
        rw [f_X10_bestBait_L17] at h
        refine lv_iload_n hx hb dX10_bestBait_17 rfl (lv_at hl 0 rfl) ?_
        refine lv_aload_n hx hb dX10_bestBait_18 rfl (lv_at hl 2 rfl) ?_
        refine va_get (D := (dC, dI)) (ci := 7) (v := .ref a1) (C := RX10) (T := TX10) (N := 10) hx hb hts ifX10_bestBait_X10 hown hK hP 15 rfl rfl 0 (by decide) (hts (.fieldLink RX10 10 "HookPier" "plan" "LHookPier$Plan;") (List.mem_of_getElem? (i := 8) rfl)) (fun _ h9 => h9) rfl dX10_bestBait_19 ?_
        refine va_get (D := (dC, dI)) (ci := 4) (v := .int p_p.2.2.2.2.1) (C := RX6) (T := TX6) (N := 18) hx hb hts ifX10_bestBait_X6 hown hK hP 5 rfl rfl 4 (by decide) (hts (.fieldLink RX10 224 "HookPier$Plan" "baits" "I") (List.mem_of_getElem? (i := 9) rfl)) (fun _ h9 => h9) rfl dX10_bestBait_22 ?_
        refine lv_icmp_ge (tgt := 49) hx hb dX10_bestBait_25 (by decide) (fun c25 => ?_) (fun c25 => ?_)
        · have h := (if_pos c25).symm.trans h
          refine lv_iload_n hx hb dX10_bestBait_49 rfl (lv_at hl 1 rfl) ?_
          obtain rfl := Option.some.inj h
          have hP9 := hP.sub (ws' := ((a0, .inr (7, [.ref a1, g8, g9, .ref a2, g10, g11, g12, g13, .int o5.2.1, .int o5.2.2])) :: bX6 a1 up kp p_p (bX4 a2 un kn n_n []))) [15, 5, 6, 7, 8, 9, 10, 11, 12, 13, 14, 0, 1, 2, 3, 4] rfl
          have hD9 := hD.sub (ws' := ((a0, .inr (7, [.ref a1, g8, g9, .ref a2, g10, g11, g12, g13, .int o5.2.1, .int o5.2.2])) :: bX6 a1 up kp p_p (bX4 a2 un kn n_n []))) [15, 5, 6, 7, 8, 9, 10, 11, 12, 13, 14, 0, 1, 2, 3, 4] (by decide) rfl
          have hK9 := hK.sub (tys' := []) [] rfl
          rw [hQQ]
          exact W.iret (v := v17_l1) hx hb hr (fun t ht hW => ⟨⟨v17_l1, (), rfl, rfl, by rw [ht]; exact hP9, va_K.moved hW.alike hK9, hD9⟩, hS.F ht⟩) hS.2.2 dX10_bestBait_50
        · have h := (if_neg c25).symm.trans h
          refine lv_aload_n hx hb dX10_bestBait_28 rfl (lv_at hl 2 rfl) ?_
          refine lv_iload_n hx hb dX10_bestBait_29 rfl (lv_at hl 0 rfl) ?_
          obtain ⟨o30, eo30, h⟩ := bd_of h
          refine cl_i (wc := ((a0, .inr (7, [.ref a1, g8, g9, .ref a2, g10, g11, g12, g13, .int o5.2.1, .int o5.2.2])) :: bX6 a1 up kp p_p (bX4 a2 un kn n_n []))) (wr := []) (va_runV (As := [.int v17_l2]) (rest := []) ⟨hx, hb, hml, hown, hts⟩ (kfX10_likers l dC dI a0 v17_l2 a1 a2 up kp un kn (g8) (g9) (g10) (g11) (g12) (g13) (.int o5.2.1) (.int o5.2.2) p_p n_n H.size o30 eo30) (cwV 1 hts gfX10_bestBait_2 rfl rfl rfl (by decide +kernel) ⟨(Nat.le_of_ble_eq_true rfl), (Nat.le_of_ble_eq_true rfl)⟩) (PV (hP.sub (ws' := ((a0, .inr (7, [.ref a1, g8, g9, .ref a2, g10, g11, g12, g13, .int o5.2.1, .int o5.2.2])) :: bX6 a1 up kp p_p (bX4 a2 un kn n_n []))) [15, 5, 6, 7, 8, 9, 10, 11, 12, 13, 14, 0, 1, 2, 3, 4] rfl) (hK.sub (tys' := (tX6 kp (tX4 kn ([])))) [0, 1, 2, 3, 4, 5, 6, 7, 8, 9, 10, 11, 12] rfl) (hD.sub (ws' := ((a0, .inr (7, [.ref a1, g8, g9, .ref a2, g10, g11, g12, g13, .int o5.2.1, .int o5.2.2])) :: bX6 a1 up kp p_p (bX4 a2 un kn n_n []))) [15, 5, 6, 7, 8, 9, 10, 11, 12, 13, 14, 0, 1, 2, 3, 4] (by decide) rfl) hN 0 rfl rfl) rfl rfl hl.1 rfl (lv_room (Nat.le_of_ble_eq_true rfl)) dX10_bestBait_30 ⟨(Nat.le_of_ble_eq_true rfl), (Nat.le_of_ble_eq_true rfl)⟩) hP hD hK hS hA [15, 5, 6, 7, 8, 9, 10, 11, 12, 13, 14, 0, 1, 2, 3, 4] [] rfl rfl (by decide) (by decide) (fun r30 _ H locs hw hP hD _ hS => ?_)
          obtain rfl := hw.symm
          have hP : va_P (dC, dI) vwCl ((a0, .inr (7, [.ref a1, g8, g9, .ref a2, g10, g11, g12, g13, .int o5.2.1, .int o5.2.2])) :: bX6 a1 up kp p_p (bX4 a2 un kn n_n [])) H := hP
          have hD : va_D A ((a0, .inr (7, [.ref a1, g8, g9, .ref a2, g10, g11, g12, g13, .int o5.2.1, .int o5.2.2])) :: bX6 a1 up kp p_p (bX4 a2 un kn n_n [])) := hD
          refine lv_aload_n hx hb dX10_bestBait_33 rfl (lv_at hl 2 rfl) ?_
          refine lv_iload_n hx hb dX10_bestBait_34 rfl (lv_at hl 1 rfl) ?_
          obtain ⟨o35, eo35, h⟩ := bd_of h
          refine cl_i (wc := ((a0, .inr (7, [.ref a1, g8, g9, .ref a2, g10, g11, g12, g13, .int o5.2.1, .int o5.2.2])) :: bX6 a1 up kp p_p (bX4 a2 un kn n_n []))) (wr := []) (va_runV (As := [.int v17_l1]) (rest := [.int o30]) ⟨hx, hb, hml, hown, hts⟩ (kfX10_likers l dC dI a0 v17_l1 a1 a2 up kp un kn (g8) (g9) (g10) (g11) (g12) (g13) (.int o5.2.1) (.int o5.2.2) p_p n_n H.size o35 eo35) (cwV 1 hts gfX10_bestBait_2 rfl rfl rfl (by decide +kernel) ⟨(Nat.le_of_ble_eq_true rfl), (Nat.le_of_ble_eq_true rfl)⟩) (PV (hP.sub (ws' := ((a0, .inr (7, [.ref a1, g8, g9, .ref a2, g10, g11, g12, g13, .int o5.2.1, .int o5.2.2])) :: bX6 a1 up kp p_p (bX4 a2 un kn n_n []))) [0, 1, 2, 3, 4, 5, 6, 7, 8, 9, 10, 11, 12, 13, 14, 15] rfl) (hK.sub (tys' := (tX6 kp (tX4 kn ([])))) [0, 1, 2, 3, 4, 5, 6, 7, 8, 9, 10, 11, 12] rfl) (hD.sub (ws' := ((a0, .inr (7, [.ref a1, g8, g9, .ref a2, g10, g11, g12, g13, .int o5.2.1, .int o5.2.2])) :: bX6 a1 up kp p_p (bX4 a2 un kn n_n []))) [0, 1, 2, 3, 4, 5, 6, 7, 8, 9, 10, 11, 12, 13, 14, 15] (by decide) rfl) hN 0 rfl rfl) rfl rfl hl.1 rfl (lv_room (Nat.le_of_ble_eq_true rfl)) dX10_bestBait_35 ⟨(Nat.le_of_ble_eq_true rfl), (Nat.le_of_ble_eq_true rfl)⟩) hP hD hK hS hA [0, 1, 2, 3, 4, 5, 6, 7, 8, 9, 10, 11, 12, 13, 14, 15] [] rfl rfl (by decide) (by decide) (fun r35 _ H locs hw hP hD _ hS => ?_)
          obtain rfl := hw.symm
          have hP : va_P (dC, dI) vwCl ((a0, .inr (7, [.ref a1, g8, g9, .ref a2, g10, g11, g12, g13, .int o5.2.1, .int o5.2.2])) :: bX6 a1 up kp p_p (bX4 a2 un kn n_n [])) H := hP
          have hD : va_D A ((a0, .inr (7, [.ref a1, g8, g9, .ref a2, g10, g11, g12, g13, .int o5.2.1, .int o5.2.2])) :: bX6 a1 up kp p_p (bX4 a2 un kn n_n [])) := hD
          have J43 : ∀ (v43_l1 : Int32) (H : Heap) (locs : List Loc) (ls : Array Slot), f_X10_bestBait_J43 (f_X10_bestBait_L17 p_p n_n o5 n17) v17_l2 v43_l1 = some out → va_P (dC, dI) vwCl ((a0, .inr (7, [.ref a1, g8, g9, .ref a2, g10, g11, g12, g13, .int o5.2.1, .int o5.2.2])) :: bX6 a1 up kp p_p (bX4 a2 un kn n_n [])) H → va_D A ((a0, .inr (7, [.ref a1, g8, g9, .ref a2, g10, g11, g12, g13, .int o5.2.1, .int o5.2.2])) :: bX6 a1 up kp p_p (bX4 a2 un kn n_n [])) → va_S A s.heap H locs → lv_has ls 3 [(2, .int v17_l2), (1, .int v43_l1), (0, .ref a0)] → W p l e (headSpec vfX10_bestBait { frames := 1, cells := 0, slots := 0, locals := 23 }).room s m ([.ref a0]).toArray below meth c H locs 0 0 QQ (F0 m 43 ls []) := by
            intro v43_l1 H locs ls h  hP hD hS hl
            rw [f_X10_bestBait_J43] at h
            refine lv_iinc (v := (v17_l2 + (1 : Int32))) (lv' := [(2, .int (v17_l2 + (1 : Int32))), (1, .int v43_l1), (0, .ref a0)]) hx hb dX10_bestBait_43 hl (k := 0) rfl rfl (by decide) rfl (fun ls hl => ?_)
            refine lv_goto (tgt := 17) hx hb dX10_bestBait_46 (by decide) ?_
            exact ih17 (v17_l2 + (1 : Int32)) v43_l1 H _ ls h  (hP.sub (ws' := (bX4 a2 un kn n_n (bX6 a1 up kp p_p ([(a0, .inr (7, [.ref a1, g8, g9, .ref a2, g10, g11, g12, g13, .int o5.2.1, .int o5.2.2]))])))) [11, 12, 13, 14, 15, 1, 2, 3, 4, 5, 6, 7, 8, 9, 10, 0] rfl) (hD.sub (ws' := (bX4 a2 un kn n_n (bX6 a1 up kp p_p ([(a0, .inr (7, [.ref a1, g8, g9, .ref a2, g10, g11, g12, g13, .int o5.2.1, .int o5.2.2]))])))) [11, 12, 13, 14, 15, 1, 2, 3, 4, 5, 6, 7, 8, 9, 10, 0] (by decide) rfl) hS (lv_sub hl [0, 1, 2] rfl)
          refine lv_icmp_le (tgt := 43) hx hb dX10_bestBait_38 (by decide) (fun c38 => ?_) (fun c38 => ?_)
          · have h := (if_pos c38).symm.trans h
            exact J43 v17_l1 H _ ls h  hP hD hS (lv_sub hl [0, 1, 2] rfl)
          · have h := (if_neg c38).symm.trans h
            refine lv_iload_n hx hb dX10_bestBait_41 rfl (lv_at hl 0 rfl) ?_
            refine lv_istore_n (lv' := [(1, .int v17_l2), (2, .int v17_l2), (0, .ref a0)]) hx hb dX10_bestBait_42 rfl hl (by decide) rfl (fun ls hl => ?_)
            exact J43 v17_l2 H _ ls h  hP hD hS (lv_sub hl [1, 0, 2] rfl)
    exact L17 FU (1 : Int32) (0 : Int32) H _ ls h  hP hD hS (lv_sub hl [0, 1, 2] rfl)
  · have h := (if_neg c8).symm.trans h
    refine lv_iconst (v := (-1)) hx hb dX10_bestBait_11 (by decide) ?_
    obtain rfl := Option.some.inj h
    have hP9 := hP.sub (ws' := ((a0, .inr (7, [.ref a1, g8, g9, .ref a2, g10, g11, g12, g13, .int o5.2.1, .int o5.2.2])) :: bX6 a1 up kp p_p (bX4 a2 un kn n_n []))) [15, 5, 6, 7, 8, 9, 10, 11, 12, 13, 14, 0, 1, 2, 3, 4] rfl
    have hD9 := hD.sub (ws' := ((a0, .inr (7, [.ref a1, g8, g9, .ref a2, g10, g11, g12, g13, .int o5.2.1, .int o5.2.2])) :: bX6 a1 up kp p_p (bX4 a2 un kn n_n []))) [15, 5, 6, 7, 8, 9, 10, 11, 12, 13, 14, 0, 1, 2, 3, 4] (by decide) rfl
    have hK9 := hK.sub (tys' := []) [] rfl
    rw [hQQ]
    exact W.iret (v := (-1 : Int32)) hx hb hr (fun t ht hW => ⟨⟨(-1 : Int32), (), rfl, rfl, by rw [ht]; exact hP9, va_K.moved hW.alike hK9, hD9⟩, hS.F ht⟩) hS.2.2 dX10_bestBait_12
theorem dX10_hungerFor_0 : decode cX10_hungerFor 0 = .ok (.aload_n 0, 1) := by decide +kernel
theorem dX10_hungerFor_1 : decode cX10_hungerFor 1 = .ok (.aload_n 0, 1) := by decide +kernel
theorem dX10_hungerFor_10 : decode cX10_hungerFor 10 = .ok (.invokevirtual 79, 3) := by decide +kernel
theorem dX10_hungerFor_13 : decode cX10_hungerFor 13 = .ok (.ifCond .eq 5, 3) := by decide +kernel
theorem dX10_hungerFor_16 : decode cX10_hungerFor 16 = .ok (.iconst (-1), 1) := by decide +kernel
theorem dX10_hungerFor_17 : decode cX10_hungerFor 17 = .ok (.ireturn, 1) := by decide +kernel
theorem dX10_hungerFor_18 : decode cX10_hungerFor 18 = .ok (.iload_n 2, 1) := by decide +kernel
theorem dX10_hungerFor_19 : decode cX10_hungerFor 19 = .ok (.iload_n 3, 1) := by decide +kernel
theorem dX10_hungerFor_2 : decode cX10_hungerFor 2 = .ok (.iload_n 1, 1) := by decide +kernel
theorem dX10_hungerFor_20 : decode cX10_hungerFor 20 = .ok (.iload 4, 2) := by decide +kernel
theorem dX10_hungerFor_22 : decode cX10_hungerFor 22 = .ok (.invokestatic 180, 3) := by decide +kernel
theorem dX10_hungerFor_25 : decode cX10_hungerFor 25 = .ok (.istore 5, 2) := by decide +kernel
theorem dX10_hungerFor_27 : decode cX10_hungerFor 27 = .ok (.iconst 0, 1) := by decide +kernel
theorem dX10_hungerFor_28 : decode cX10_hungerFor 28 = .ok (.istore 6, 2) := by decide +kernel
theorem dX10_hungerFor_3 : decode cX10_hungerFor 3 = .ok (.iload_n 2, 1) := by decide +kernel
theorem dX10_hungerFor_30 : decode cX10_hungerFor 30 = .ok (.iload 6, 2) := by decide +kernel
theorem dX10_hungerFor_32 : decode cX10_hungerFor 32 = .ok (.bipush 99, 2) := by decide +kernel
theorem dX10_hungerFor_34 : decode cX10_hungerFor 34 = .ok (.if_icmp .gt 29, 3) := by decide +kernel
theorem dX10_hungerFor_37 : decode cX10_hungerFor 37 = .ok (.aload_n 0, 1) := by decide +kernel
theorem dX10_hungerFor_38 : decode cX10_hungerFor 38 = .ok (.getfield 10, 3) := by decide +kernel
theorem dX10_hungerFor_4 : decode cX10_hungerFor 4 = .ok (.iload_n 3, 1) := by decide +kernel
theorem dX10_hungerFor_41 : decode cX10_hungerFor 41 = .ok (.iload_n 1, 1) := by decide +kernel
theorem dX10_hungerFor_42 : decode cX10_hungerFor 42 = .ok (.iload 6, 2) := by decide +kernel
theorem dX10_hungerFor_44 : decode cX10_hungerFor 44 = .ok (.iload 5, 2) := by decide +kernel
theorem dX10_hungerFor_46 : decode cX10_hungerFor 46 = .ok (.invokevirtual 230, 3) := by decide +kernel
theorem dX10_hungerFor_49 : decode cX10_hungerFor 49 = .ok (.bipush 50, 2) := by decide +kernel
theorem dX10_hungerFor_5 : decode cX10_hungerFor 5 = .ok (.iload 4, 2) := by decide +kernel
theorem dX10_hungerFor_51 : decode cX10_hungerFor 51 = .ok (.if_icmp .lt 6, 3) := by decide +kernel
theorem dX10_hungerFor_54 : decode cX10_hungerFor 54 = .ok (.iload 6, 2) := by decide +kernel
theorem dX10_hungerFor_56 : decode cX10_hungerFor 56 = .ok (.ireturn, 1) := by decide +kernel
theorem dX10_hungerFor_57 : decode cX10_hungerFor 57 = .ok (.iinc 6 1, 3) := by decide +kernel
theorem dX10_hungerFor_60 : decode cX10_hungerFor 60 = .ok (.goto (-30), 3) := by decide +kernel
theorem dX10_hungerFor_63 : decode cX10_hungerFor 63 = .ok (.bipush (-2), 2) := by decide +kernel
theorem dX10_hungerFor_65 : decode cX10_hungerFor 65 = .ok (.ireturn, 1) := by decide +kernel
theorem dX10_hungerFor_7 : decode cX10_hungerFor 7 = .ok (.invokevirtual 176, 3) := by decide +kernel
def vfX10_hungerFor : List Cond := List.cons (.code yX10_hungerFor cX10_hungerFor 7 (some .int)) (apW [.methodLink RX10 176 yX10_wishTrouble, .instanceMethod yX10_wishTrouble, .selects RX10 yX10_wishTrouble yX10_wishTrouble, .initialized RX10, .methodLink RX10 79 yX10_refused, .instanceMethod yX10_refused, .selects RX10 yX10_refused yX10_refused, .methodLink RX10 180 yX10_question, .static yX10_question, .fieldLink RX10 10 "HookPier" "plan" "LHookPier$Plan;", .methodLink RX10 230 yX6_wishBy, .instanceMethod yX6_wishBy, .selects RX6 yX6_wishBy yX6_wishBy, .initialized RX6] (apW wsX100 (apW vfX10_wishTrouble (apW vfX10_refused (apW vfX10_question (vfX6_wishBy))))))
theorem ifX10_hungerFor_X10 : ∀ w ∈ wsX100, w ∈ vfX10_hungerFor := fun _ h => (List.mem_cons_of_mem _ (List.mem_append_right _ (List.mem_append_left _ h)))
theorem qfX10_hungerFor : Good vfX10_hungerFor := gd_cons (by decide +kernel) (gd_app (gd_dec (by decide +kernel) : Good [.methodLink RX10 176 yX10_wishTrouble, .instanceMethod yX10_wishTrouble, .selects RX10 yX10_wishTrouble yX10_wishTrouble, .initialized RX10, .methodLink RX10 79 yX10_refused, .instanceMethod yX10_refused, .selects RX10 yX10_refused yX10_refused, .methodLink RX10 180 yX10_question, .static yX10_question, .fieldLink RX10 10 "HookPier" "plan" "LHookPier$Plan;", .methodLink RX10 230 yX6_wishBy, .instanceMethod yX6_wishBy, .selects RX6 yX6_wishBy yX6_wishBy, .initialized RX6]) (gd_app qsX10 (gd_app qfX10_wishTrouble (gd_app qfX10_refused (gd_app qfX10_question qfX6_wishBy)))))
theorem gfX10_hungerFor_0 : GoodIn vfX10_hungerFor (wsV RX10 176 RX10 yX10_wishTrouble vfX10_wishTrouble) := goodIn_app (goodIn_r [.methodLink RX10 176 yX10_wishTrouble, .instanceMethod yX10_wishTrouble, .selects RX10 yX10_wishTrouble yX10_wishTrouble, .initialized RX10] [1, 2, 3, 4] rfl (by decide +kernel)) (goodIn_m (fun _ h => (List.mem_cons_of_mem _ (List.mem_append_right _ (List.mem_append_right _ (List.mem_append_left _ h))))) qfX10_wishTrouble)
theorem gfX10_hungerFor_1 : GoodIn vfX10_hungerFor (wsV RX10 79 RX10 yX10_refused vfX10_refused) := goodIn_app (goodIn_r [.methodLink RX10 79 yX10_refused, .instanceMethod yX10_refused, .selects RX10 yX10_refused yX10_refused, .initialized RX10] [5, 6, 7, 4] rfl (by decide +kernel)) (goodIn_m (fun _ h => (List.mem_cons_of_mem _ (List.mem_append_right _ (List.mem_append_right _ (List.mem_append_right _ (List.mem_append_left _ h)))))) qfX10_refused)
theorem gfX10_hungerFor_2 : GoodIn vfX10_hungerFor (va_wsS RX10 180 yX10_question vfX10_question) := goodIn_app (goodIn_r [.methodLink RX10 180 yX10_question, .static yX10_question, .initialized RX10] [8, 9, 4] rfl (by decide +kernel)) (goodIn_m (fun _ h => (List.mem_cons_of_mem _ (List.mem_append_right _ (List.mem_append_right _ (List.mem_append_right _ (List.mem_append_right _ (List.mem_append_left _ h))))))) qfX10_question)
theorem gfX10_hungerFor_3 : GoodIn vfX10_hungerFor (wsV RX10 230 RX6 yX6_wishBy vfX6_wishBy) := goodIn_app (goodIn_r [.methodLink RX10 230 yX6_wishBy, .instanceMethod yX6_wishBy, .selects RX6 yX6_wishBy yX6_wishBy, .initialized RX6] [11, 12, 13, 14] rfl (by decide +kernel)) (goodIn_m (fun _ h => (List.mem_cons_of_mem _ (List.mem_append_right _ (List.mem_append_right _ (List.mem_append_right _ (List.mem_append_right _ (List.mem_append_right _ h))))))) qfX6_wishBy)
set_option maxHeartbeats 2000000 in
set_option maxRecDepth 100000 in
theorem kfX10_hungerFor (l : Launch) (dC : Nat → ClassId) (dI : Nat → Nat → Nat) (a0 : Nat) (k1 : Int32) (k2 : Int32) (k3 : Int32) (k4 : Int32) (a5 : Nat) (up : Nat → Nat) (kp : Nat → ClassId) (x_x : TX10_x) (g9 : Value) (g10 : Value) (g11 : Value) (g12 : Value) (g13 : Value) (g14 : Value) (g15 : Value) (p_p : TX6_p) (sz : Nat) (out : (Int32 × TX10_x)) (h : f_X10_hungerFor k1 k2 k3 k4 x_x p_p = some out) : Met l yX10_hungerFor vfX10_hungerFor ({ frames := 4, cells := 0, slots := 0, locals := 91 }) (PC (dC, dI) [.ref a0, .int k1, .int k2, .int k3, .int k4] sz ((a0, .inr (7, [.ref a5, g9, g10, g11, g12, g13, g14, g15, .int x_x.1, .int x_x.2])) :: bX6 a5 up kp p_p []) (tX6 kp ([]))) (va_Qi (S := Unit) (fun (r : Int32) _ => r = out.1) (fun _ t => BC (dC, dI) (va_A ((a0, .inr (7, [.ref a5, g9, g10, g11, g12, g13, g14, g15, .int x_x.1, .int x_x.2])) :: bX6 a5 up kp p_p []) sz) ((a0, .inr (7, [.ref a5, g9, g10, g11, g12, g13, g14, g15, .int out.2.1, .int out.2.2])) :: bX6 a5 up kp p_p []) [] t) (va_A ((a0, .inr (7, [.ref a5, g9, g10, g11, g12, g13, g14, g15, .int x_x.1, .int x_x.2])) :: bX6 a5 up kp p_p []) sz)) 0 0 (va_A ((a0, .inr (7, [.ref a5, g9, g10, g11, g12, g13, g14, g15, .int x_x.1, .int x_x.2])) :: bX6 a5 up kp p_p []) sz) := by
  refine Met.ofW (cc := cX10_hungerFor) (maxL := 7) (ret := (some .int)) (by decide) rfl ?_
  intro p e s m args below meth c s₁ B0 hml hv
  obtain ⟨rfl, hsz, hP, hK, hD0, hN⟩ := hv
  have hx := B0.exec
  have hb := B0.bytes
  have hr := B0.returns
  have hts := atoms_spec (ws := vfX10_hungerFor) B0.pre
  have hown : s.vm.findClass RX10 = some m.cls := findClass_of_methodNamed B0.named
  have hlocks := B0.notSynchronized
  subst hsz
  have hD := hD0.self (sz := s.heap.size)
  generalize hAe : va_A ((a0, .inr (7, [.ref a5, g9, g10, g11, g12, g13, g14, g15, .int x_x.1, .int x_x.2])) :: bX6 a5 up kp p_p []) s.heap.size = A at hD ⊢
  have hA : ∀ q : Nat, s.heap.size ≤ q → A q := fun q h => by rw [← hAe]; exact Or.inr h
  have hS : va_S A s.heap s.heap [] := va_S.rf
  have hP : va_P (dC, dI) vwCl ((a0, .inr (7, [.ref a5, g9, g10, g11, g12, g13, g14, g15, .int x_x.1, .int x_x.2])) :: bX6 a5 up kp p_p []) s.heap := hP
  have hl := lv_entry ([.ref a0, .int k1, .int k2, .int k3, .int k4]) (n := 7) (Nat.le_of_ble_eq_true rfl)
  rw [lg_entry_eq]
  generalize (lg_sl ([.ref a0, .int k1, .int k2, .int k3, .int k4]) ++ List.replicate (7 - (lg_sl ([.ref a0, .int k1, .int k2, .int k3, .int k4])).length) Slot.unset).toArray = ls at hl ⊢
  have hl : lv_has ls 7 [(0, .ref a0), (1, .int k1), (2, .int k2), (3, .int k3), (4, .int k4)] := hl
  refine W_q (fun QQ hQQ => ?_)
  rw [f_X10_hungerFor] at h
  refine lv_aload_n hx hb dX10_hungerFor_0 rfl (lv_at hl 0 rfl) ?_
  refine lv_aload_n hx hb dX10_hungerFor_1 rfl (lv_at hl 0 rfl) ?_
  refine lv_iload_n hx hb dX10_hungerFor_2 rfl (lv_at hl 1 rfl) ?_
  refine lv_iload_n hx hb dX10_hungerFor_3 rfl (lv_at hl 2 rfl) ?_
  refine lv_iload_n hx hb dX10_hungerFor_4 rfl (lv_at hl 3 rfl) ?_
  refine lv_iload hx hb dX10_hungerFor_5 (lv_at hl 4 rfl) ?_
  obtain ⟨o7, eo7⟩ : ∃ o, o = f_X10_wishTrouble k1 k2 k3 k4 p_p := ⟨_, rfl⟩
  have h := nm_of h o7 eo7
  refine cl_i (wc := ((a0, .inr (7, [.ref a5, g9, g10, g11, g12, g13, g14, g15, .int x_x.1, .int x_x.2])) :: bX6 a5 up kp p_p [])) (wr := []) (va_runV (As := [.int k1, .int k2, .int k3, .int k4]) (rest := [.ref a0]) ⟨hx, hb, hml, hown, hts⟩ (kfX10_wishTrouble l dC dI a0 k1 k2 k3 k4 a5 up kp (g9) (g10) (g11) (g12) (g13) (g14) (g15) (.int x_x.1) (.int x_x.2) p_p s.heap.size o7 eo7.symm) (cwV 4 hts gfX10_hungerFor_0 rfl rfl rfl (by decide +kernel) ⟨(Nat.le_of_ble_eq_true rfl), (Nat.le_of_ble_eq_true rfl)⟩) (PV (hP.sub (ws' := ((a0, .inr (7, [.ref a5, g9, g10, g11, g12, g13, g14, g15, .int x_x.1, .int x_x.2])) :: bX6 a5 up kp p_p [])) [0, 1, 2, 3, 4, 5, 6, 7, 8, 9, 10] rfl) (hK.sub (tys' := (tX6 kp ([]))) [0, 1, 2, 3, 4, 5, 6, 7, 8] rfl) (hD.sub (ws' := ((a0, .inr (7, [.ref a5, g9, g10, g11, g12, g13, g14, g15, .int x_x.1, .int x_x.2])) :: bX6 a5 up kp p_p [])) [0, 1, 2, 3, 4, 5, 6, 7, 8, 9, 10] (by decide) rfl) hN 0 rfl rfl) rfl rfl hl.1 rfl (lv_room (Nat.le_of_ble_eq_true rfl)) dX10_hungerFor_7 ⟨(Nat.le_of_ble_eq_true rfl), (Nat.le_of_ble_eq_true rfl)⟩) hP hD hK hS hA [0, 1, 2, 3, 4, 5, 6, 7, 8, 9, 10] [] rfl rfl (by decide) (by decide) (fun r7 _ H locs hw hP hD _ hS => ?_)
  obtain rfl := hw.symm
  have hP : va_P (dC, dI) vwCl ((a0, .inr (7, [.ref a5, g9, g10, g11, g12, g13, g14, g15, .int x_x.1, .int x_x.2])) :: bX6 a5 up kp p_p []) H := hP
  have hD : va_D A ((a0, .inr (7, [.ref a5, g9, g10, g11, g12, g13, g14, g15, .int x_x.1, .int x_x.2])) :: bX6 a5 up kp p_p []) := hD
  obtain ⟨o10, eo10⟩ : ∃ o, o = f_X10_refused o7 x_x := ⟨_, rfl⟩
  have h := nm_of h o10 eo10
  refine cl_i (wc := ([(a0, .inr (7, [.ref a5, g9, g10, g11, g12, g13, g14, g15, .int x_x.1, .int x_x.2]))])) (wr := (bX6 a5 up kp p_p [])) (va_runV (As := [.int o7]) (rest := []) ⟨hx, hb, hml, hown, hts⟩ (kfX10_refused l dC dI a0 o7 x_x (.ref a5) (g9) (g10) (g11) (g12) (g13) (g14) (g15) H.size o10 eo10.symm) (cwV 1 hts gfX10_hungerFor_1 rfl rfl rfl (by decide +kernel) ⟨(Nat.le_of_ble_eq_true rfl), (Nat.le_of_ble_eq_true rfl)⟩) (PV (hP.sub (ws' := ([(a0, .inr (7, [.ref a5, g9, g10, g11, g12, g13, g14, g15, .int x_x.1, .int x_x.2]))])) [0] rfl) (hK.sub (tys' := ([])) [] rfl) (hD.sub (ws' := ([(a0, .inr (7, [.ref a5, g9, g10, g11, g12, g13, g14, g15, .int x_x.1, .int x_x.2]))])) [0] (by decide) rfl) hN 0 rfl rfl) rfl rfl hl.1 rfl (lv_room (Nat.le_of_ble_eq_true rfl)) dX10_hungerFor_10 ⟨(Nat.le_of_ble_eq_true rfl), (Nat.le_of_ble_eq_true rfl)⟩) hP hD hK hS hA [0] [1, 2, 3, 4, 5, 6, 7, 8, 9, 10] rfl rfl (by decide) (by decide) (fun r10 _ H locs hw hP hD _ hS => ?_)
  obtain ⟨hw, br10⟩ := hw
  obtain rfl := hw
  have hP : va_P (dC, dI) vwCl (bX6 a5 up kp p_p ([(a0, .inr (7, [.ref a5, g9, g10, g11, g12, g13, g14, g15, .int o10.2.1, .int o10.2.2]))])) H := hP
  have hD : va_D A (bX6 a5 up kp p_p ([(a0, .inr (7, [.ref a5, g9, g10, g11, g12, g13, g14, g15, .int o10.2.1, .int o10.2.2]))])) := hD
  refine lv_if_eq (tgt := 18) hx hb dX10_hungerFor_13 (by decide) (fun c13 => ?_) (fun c13 => ?_)
  · have h := (if_pos c13).symm.trans h
    refine lv_iload_n hx hb dX10_hungerFor_18 rfl (lv_at hl 2 rfl) ?_
    refine lv_iload_n hx hb dX10_hungerFor_19 rfl (lv_at hl 3 rfl) ?_
    refine lv_iload hx hb dX10_hungerFor_20 (lv_at hl 4 rfl) ?_
    obtain ⟨o22, eo22⟩ : ∃ o, o = f_X10_question k2 k3 k4 := ⟨_, rfl⟩
    have h := nm_of h o22 eo22
    refine cl_i (wc := []) (wr := (bX6 a5 up kp p_p ([(a0, .inr (7, [.ref a5, g9, g10, g11, g12, g13, g14, g15, .int o10.2.1, .int o10.2.2]))]))) (va_runS (As := [.int k2, .int k3, .int k4]) (rest := []) ⟨hx, hb, hml, hown, hts⟩ (kfX10_question l dC dI k2 k3 k4 H.size o22 eo22.symm) (va_cwS 3 hts gfX10_hungerFor_2 rfl rfl rfl (by decide +kernel) ⟨(Nat.le_of_ble_eq_true rfl), (Nat.le_of_ble_eq_true rfl)⟩) (PS (hP.sub (ws' := []) [] rfl) (hK.sub (tys' := ([])) [] rfl) (hD.sub (ws' := []) [] (by decide) rfl) hN) rfl rfl hl.1 rfl (lv_room (Nat.le_of_ble_eq_true rfl)) dX10_hungerFor_22 ⟨(Nat.le_of_ble_eq_true rfl), (Nat.le_of_ble_eq_true rfl)⟩) hP hD hK hS hA [] [0, 1, 2, 3, 4, 5, 6, 7, 8, 9, 10] rfl rfl (by decide) (by decide) (fun r22 _ H locs hw hP hD _ hS => ?_)
    obtain rfl := hw.symm
    have hP : va_P (dC, dI) vwCl (bX6 a5 up kp p_p ([(a0, .inr (7, [.ref a5, g9, g10, g11, g12, g13, g14, g15, .int o10.2.1, .int o10.2.2]))])) H := hP
    have hD : va_D A (bX6 a5 up kp p_p ([(a0, .inr (7, [.ref a5, g9, g10, g11, g12, g13, g14, g15, .int o10.2.1, .int o10.2.2]))])) := hD
    refine lv_istore (lv' := [(5, .int o22), (0, .ref a0), (1, .int k1), (2, .int k2), (3, .int k3), (4, .int k4)]) hx hb dX10_hungerFor_25 hl (by decide) rfl (fun ls hl => ?_)
    refine lv_iconst (v := 0) hx hb dX10_hungerFor_27 (by decide) ?_
    refine lv_istore (lv' := [(6, .int 0), (5, .int o22), (0, .ref a0), (1, .int k1), (2, .int k2), (3, .int k3), (4, .int k4)]) hx hb dX10_hungerFor_28 hl (by decide) rfl (fun ls hl => ?_)
    have L30 : ∀ (n30 : Nat) (v30_l6 : Int32) (H : Heap) (locs : List Loc) (ls : Array Slot), f_X10_hungerFor_L30 k1 p_p o10 o22 n30 v30_l6 = some out → va_P (dC, dI) vwCl (bX6 a5 up kp p_p ([(a0, .inr (7, [.ref a5, g9, g10, g11, g12, g13, g14, g15, .int o10.2.1, .int o10.2.2]))])) H → va_D A (bX6 a5 up kp p_p ([(a0, .inr (7, [.ref a5, g9, g10, g11, g12, g13, g14, g15, .int o10.2.1, .int o10.2.2]))])) → va_S A s.heap H locs → lv_has ls 7 [(6, .int v30_l6), (5, .int o22), (0, .ref a0), (1, .int k1)] → W p l e (headSpec vfX10_hungerFor { frames := 4, cells := 0, slots := 0, locals := 91 }).room s m ([.ref a0, .int k1, .int k2, .int k3, .int k4]).toArray below meth c H locs 0 0 QQ (F0 m 30 ls []) := by
      intro n30
      induction n30 with
      | zero =>
        intro v30_l6 H locs ls h  _ _ _ _
        rw [f_X10_hungerFor_L30] at h
        cases h
      | succ n30 ih30 =>
        intro v30_l6 H locs ls h  hP hD hS hl
        rw [f_X10_hungerFor_L30] at h
        refine lv_iload hx hb dX10_hungerFor_30 (lv_at hl 0 rfl) ?_
        refine lv_bipush (v := 99) hx hb dX10_hungerFor_32 (by decide) ?_
        refine lv_icmp_gt (tgt := 63) hx hb dX10_hungerFor_34 (by decide) (fun c34 => ?_) (fun c34 => ?_)
        · have h := (if_pos c34).symm.trans h
          refine lv_bipush (v := (-2)) hx hb dX10_hungerFor_63 (by decide) ?_
          obtain rfl := Option.some.inj h
          have hP9 := hP.sub (ws' := ((a0, .inr (7, [.ref a5, g9, g10, g11, g12, g13, g14, g15, .int o10.2.1, .int o10.2.2])) :: bX6 a5 up kp p_p [])) [10, 0, 1, 2, 3, 4, 5, 6, 7, 8, 9] rfl
          have hD9 := hD.sub (ws' := ((a0, .inr (7, [.ref a5, g9, g10, g11, g12, g13, g14, g15, .int o10.2.1, .int o10.2.2])) :: bX6 a5 up kp p_p [])) [10, 0, 1, 2, 3, 4, 5, 6, 7, 8, 9] (by decide) rfl
          have hK9 := hK.sub (tys' := []) [] rfl
          rw [hQQ]
          exact W.iret (v := (-2 : Int32)) hx hb hr (fun t ht hW => ⟨⟨(-2 : Int32), (), rfl, rfl, by rw [ht]; exact hP9, va_K.moved hW.alike hK9, hD9⟩, hS.F ht⟩) hS.2.2 dX10_hungerFor_65
        · have h := (if_neg c34).symm.trans h
          refine lv_aload_n hx hb dX10_hungerFor_37 rfl (lv_at hl 2 rfl) ?_
          refine va_get (D := (dC, dI)) (ci := 7) (v := .ref a5) (C := RX10) (T := TX10) (N := 10) hx hb hts ifX10_hungerFor_X10 hown hK hP 10 rfl rfl 0 (by decide) (hts (.fieldLink RX10 10 "HookPier" "plan" "LHookPier$Plan;") (List.mem_of_getElem? (i := 10) rfl)) (fun _ h9 => h9) rfl dX10_hungerFor_38 ?_
          refine lv_iload_n hx hb dX10_hungerFor_41 rfl (lv_at hl 3 rfl) ?_
          refine lv_iload hx hb dX10_hungerFor_42 (lv_at hl 0 rfl) ?_
          refine lv_iload hx hb dX10_hungerFor_44 (lv_at hl 1 rfl) ?_
          obtain ⟨o46, eo46, h⟩ := bd_of h
          refine cl_i (wc := (bX6 a5 up kp p_p [])) (wr := ([(a0, .inr (7, [.ref a5, g9, g10, g11, g12, g13, g14, g15, .int o10.2.1, .int o10.2.2]))])) (va_runV (As := [.int k1, .int v30_l6, .int o22]) (rest := []) ⟨hx, hb, hml, hown, hts⟩ (kfX6_wishBy l dC dI a5 k1 v30_l6 o22 up kp p_p H.size o46 eo46) (cwV 3 hts gfX10_hungerFor_3 rfl rfl rfl (by decide +kernel) ⟨(Nat.le_of_ble_eq_true rfl), (Nat.le_of_ble_eq_true rfl)⟩) (PV (hP.sub (ws' := (bX6 a5 up kp p_p [])) [0, 1, 2, 3, 4, 5, 6, 7, 8, 9] rfl) (hK.sub (tys' := (tX6 kp ([]))) [0, 1, 2, 3, 4, 5, 6, 7, 8] rfl) (hD.sub (ws' := (bX6 a5 up kp p_p [])) [0, 1, 2, 3, 4, 5, 6, 7, 8, 9] (by decide) rfl) hN 0 rfl rfl) rfl rfl hl.1 rfl (lv_room (Nat.le_of_ble_eq_true rfl)) dX10_hungerFor_46 ⟨(Nat.le_of_ble_eq_true rfl), (Nat.le_of_ble_eq_true rfl)⟩) hP hD hK hS hA [0, 1, 2, 3, 4, 5, 6, 7, 8, 9] [10] rfl rfl (by decide) (by decide) (fun r46 _ H locs hw hP hD _ hS => ?_)
          obtain rfl := hw.symm
          have hP : va_P (dC, dI) vwCl ((a0, .inr (7, [.ref a5, g9, g10, g11, g12, g13, g14, g15, .int o10.2.1, .int o10.2.2])) :: bX6 a5 up kp p_p []) H := hP
          have hD : va_D A ((a0, .inr (7, [.ref a5, g9, g10, g11, g12, g13, g14, g15, .int o10.2.1, .int o10.2.2])) :: bX6 a5 up kp p_p []) := hD
          refine lv_bipush (v := 50) hx hb dX10_hungerFor_49 (by decide) ?_
          refine lv_icmp_lt (tgt := 57) hx hb dX10_hungerFor_51 (by decide) (fun c51 => ?_) (fun c51 => ?_)
          · have h := (if_pos c51).symm.trans h
            refine lv_iinc (v := (v30_l6 + (1 : Int32))) (lv' := [(6, .int (v30_l6 + (1 : Int32))), (5, .int o22), (0, .ref a0), (1, .int k1)]) hx hb dX10_hungerFor_57 hl (k := 0) rfl rfl (by decide) rfl (fun ls hl => ?_)
            refine lv_goto (tgt := 30) hx hb dX10_hungerFor_60 (by decide) ?_
            exact ih30 (v30_l6 + (1 : Int32)) H _ ls h  (hP.sub (ws' := (bX6 a5 up kp p_p ([(a0, .inr (7, [.ref a5, g9, g10, g11, g12, g13, g14, g15, .int o10.2.1, .int o10.2.2]))]))) [1, 2, 3, 4, 5, 6, 7, 8, 9, 10, 0] rfl) (hD.sub (ws' := (bX6 a5 up kp p_p ([(a0, .inr (7, [.ref a5, g9, g10, g11, g12, g13, g14, g15, .int o10.2.1, .int o10.2.2]))]))) [1, 2, 3, 4, 5, 6, 7, 8, 9, 10, 0] (by decide) rfl) hS (lv_sub hl [0, 1, 2, 3] rfl)
          · have h := (if_neg c51).symm.trans h
            refine lv_iload hx hb dX10_hungerFor_54 (lv_at hl 0 rfl) ?_
            obtain rfl := Option.some.inj h
            have hP9 := hP.sub (ws' := ((a0, .inr (7, [.ref a5, g9, g10, g11, g12, g13, g14, g15, .int o10.2.1, .int o10.2.2])) :: bX6 a5 up kp p_p [])) [0, 1, 2, 3, 4, 5, 6, 7, 8, 9, 10] rfl
            have hD9 := hD.sub (ws' := ((a0, .inr (7, [.ref a5, g9, g10, g11, g12, g13, g14, g15, .int o10.2.1, .int o10.2.2])) :: bX6 a5 up kp p_p [])) [0, 1, 2, 3, 4, 5, 6, 7, 8, 9, 10] (by decide) rfl
            have hK9 := hK.sub (tys' := []) [] rfl
            rw [hQQ]
            exact W.iret (v := v30_l6) hx hb hr (fun t ht hW => ⟨⟨v30_l6, (), rfl, rfl, by rw [ht]; exact hP9, va_K.moved hW.alike hK9, hD9⟩, hS.F ht⟩) hS.2.2 dX10_hungerFor_56
    exact L30 FU (0 : Int32) H _ ls h  hP hD hS (lv_sub hl [0, 1, 2, 3] rfl)
  · have h := (if_neg c13).symm.trans h
    refine lv_iconst (v := (-1)) hx hb dX10_hungerFor_16 (by decide) ?_
    obtain rfl := Option.some.inj h
    have hP9 := hP.sub (ws' := ((a0, .inr (7, [.ref a5, g9, g10, g11, g12, g13, g14, g15, .int o10.2.1, .int o10.2.2])) :: bX6 a5 up kp p_p [])) [10, 0, 1, 2, 3, 4, 5, 6, 7, 8, 9] rfl
    have hD9 := hD.sub (ws' := ((a0, .inr (7, [.ref a5, g9, g10, g11, g12, g13, g14, g15, .int o10.2.1, .int o10.2.2])) :: bX6 a5 up kp p_p [])) [10, 0, 1, 2, 3, 4, 5, 6, 7, 8, 9] (by decide) rfl
    have hK9 := hK.sub (tys' := []) [] rfl
    rw [hQQ]
    exact W.iret (v := (-1 : Int32)) hx hb hr (fun t ht hW => ⟨⟨(-1 : Int32), (), rfl, rfl, by rw [ht]; exact hP9, va_K.moved hW.alike hK9, hD9⟩, hS.F ht⟩) hS.2.2 dX10_hungerFor_17
