noncomputable def zrX10_day_0 : List ZR := zc 0 true (.aload_n 0) 1 (zc 1 true (.invokevirtual 216) 3 (zc 4 true (.istore_n 1) 1 (zc 5 true (.aload_n 0) 1 (zc 6 true (.iload_n 1) 1 (zc 7 true (.ifCond .ne 20) 3 (zc 10 true (.aload_n 0) 1 (zc 11 true (.getfield 29) 3 (zc 14 true (.getfield 134) 3 (zc 17 true (.sipush 999) 3 (zc 20 true (.if_icmp .lt 7) 3 (zc 23 true (.iconst 3) 1 (zc 24 true (.goto 4) 3 (zc 27 true (.iload_n 1) 1 (zc 28 true (.invokevirtual 79) 3 (zc 31 true (.ifCond .eq 5) 3 (zc 34 true (.iconst (-1)) 1 (zc 35 true (.ireturn) 1 (zc 36 true (.aload_n 0) 1 (zc 37 true (.getfield 36) 3 (zc 40 true (.aload_n 0) 1 (zc 41 true (.getfield 29) 3 (zc 44 true (.invokevirtual 340) 3 (zc 47 true (.aload_n 0) 1 (zc 48 true (.getfield 57) 3 (zc 51 true (.aload_n 0) 1 (zc 52 true (.getfield 10) 3 (zc 55 true (.aload_n 0) 1 (zc 56 true (.getfield 29) 3 (zc 59 true (.invokevirtual 347) 3 (zc 62 true (.ireturn) 1 ([])))))))))))))))))))))))))))))))
theorem zrX10_day_0_ok : zck 0 ((zby cX10_day).drop 0) zrX10_day_0 = true := by decide +kernel
def vfX10_day : List Cond := List.cons (.code yX10_day cX10_day 2 (some .int)) (apW [.methodLink RX10 216 yX10_pierTrouble, .instanceMethod yX10_pierTrouble, .selects RX10 yX10_pierTrouble yX10_pierTrouble, .initialized RX10, .methodLink RX10 79 yX10_refused, .instanceMethod yX10_refused, .selects RX10 yX10_refused yX10_refused, .fieldLink RX10 36 "HookPier" "history" "LHookPier$History;", .fieldLink RX10 29 "HookPier" "now" "LHookPier$Now;", .methodLink RX10 340 yX2_keep, .instanceMethod yX2_keep, .selects RX2 yX2_keep yX2_keep, .initialized RX2, .fieldLink RX10 57 "HookPier" "days" "LHookPier$Days;", .fieldLink RX10 10 "HookPier" "plan" "LHookPier$Plan;", .methodLink RX10 347 yX1_pass, .instanceMethod yX1_pass, .selects RX1 yX1_pass yX1_pass, .initialized RX1, .fieldLink RX10 134 "HookPier$Now" "today" "I"] (apW wsX100 (apW wsX40 (apW vfX10_pierTrouble (apW vfX10_refused (apW vfX2_keep (vfX1_pass)))))))
theorem ifX10_day_X10 : ∀ w ∈ wsX100, w ∈ vfX10_day := fun _ h => (List.mem_cons_of_mem _ (List.mem_append_right _ (List.mem_append_left _ h)))
theorem ifX10_day_X4 : ∀ w ∈ wsX40, w ∈ vfX10_day := fun _ h => (List.mem_cons_of_mem _ (List.mem_append_right _ (List.mem_append_right _ (List.mem_append_left _ h))))
theorem qfX10_day : Good vfX10_day := gd_cons (by decide +kernel) (gd_app (gd_dec (by decide +kernel) : Good [.methodLink RX10 216 yX10_pierTrouble, .instanceMethod yX10_pierTrouble, .selects RX10 yX10_pierTrouble yX10_pierTrouble, .initialized RX10, .methodLink RX10 79 yX10_refused, .instanceMethod yX10_refused, .selects RX10 yX10_refused yX10_refused, .fieldLink RX10 36 "HookPier" "history" "LHookPier$History;", .fieldLink RX10 29 "HookPier" "now" "LHookPier$Now;", .methodLink RX10 340 yX2_keep, .instanceMethod yX2_keep, .selects RX2 yX2_keep yX2_keep, .initialized RX2, .fieldLink RX10 57 "HookPier" "days" "LHookPier$Days;", .fieldLink RX10 10 "HookPier" "plan" "LHookPier$Plan;", .methodLink RX10 347 yX1_pass, .instanceMethod yX1_pass, .selects RX1 yX1_pass yX1_pass, .initialized RX1, .fieldLink RX10 134 "HookPier$Now" "today" "I"]) (gd_app qsX10 (gd_app qsX4 (gd_app qfX10_pierTrouble (gd_app qfX10_refused (gd_app qfX2_keep qfX1_pass))))))
theorem gfX10_day_0 : GoodIn vfX10_day (wsV RX10 216 RX10 yX10_pierTrouble vfX10_pierTrouble) := goodIn_app (goodIn_r [.methodLink RX10 216 yX10_pierTrouble, .instanceMethod yX10_pierTrouble, .selects RX10 yX10_pierTrouble yX10_pierTrouble, .initialized RX10] [1, 2, 3, 4] rfl (by decide +kernel)) (goodIn_m (fun _ h => (List.mem_cons_of_mem _ (List.mem_append_right _ (List.mem_append_right _ (List.mem_append_right _ (List.mem_append_left _ h)))))) qfX10_pierTrouble)
theorem gfX10_day_1 : GoodIn vfX10_day (wsV RX10 79 RX10 yX10_refused vfX10_refused) := goodIn_app (goodIn_r [.methodLink RX10 79 yX10_refused, .instanceMethod yX10_refused, .selects RX10 yX10_refused yX10_refused, .initialized RX10] [5, 6, 7, 4] rfl (by decide +kernel)) (goodIn_m (fun _ h => (List.mem_cons_of_mem _ (List.mem_append_right _ (List.mem_append_right _ (List.mem_append_right _ (List.mem_append_right _ (List.mem_append_left _ h))))))) qfX10_refused)
theorem gfX10_day_2 : GoodIn vfX10_day (wsV RX10 340 RX2 yX2_keep vfX2_keep) := goodIn_app (goodIn_r [.methodLink RX10 340 yX2_keep, .instanceMethod yX2_keep, .selects RX2 yX2_keep yX2_keep, .initialized RX2] [10, 11, 12, 13] rfl (by decide +kernel)) (goodIn_m (fun _ h => (List.mem_cons_of_mem _ (List.mem_append_right _ (List.mem_append_right _ (List.mem_append_right _ (List.mem_append_right _ (List.mem_append_right _ (List.mem_append_left _ h)))))))) qfX2_keep)
theorem gfX10_day_3 : GoodIn vfX10_day (wsV RX10 347 RX1 yX1_pass vfX1_pass) := goodIn_app (goodIn_r [.methodLink RX10 347 yX1_pass, .instanceMethod yX1_pass, .selects RX1 yX1_pass yX1_pass, .initialized RX1] [16, 17, 18, 19] rfl (by decide +kernel)) (goodIn_m (fun _ h => (List.mem_cons_of_mem _ (List.mem_append_right _ (List.mem_append_right _ (List.mem_append_right _ (List.mem_append_right _ (List.mem_append_right _ (List.mem_append_right _ h)))))))) qfX1_pass)
set_option maxHeartbeats 2000000 in
set_option maxRecDepth 100000 in
theorem kfX10_day (l : Launch) (dC : Nat → ClassId) (dI : Nat → Nat → Nat) (a0 : Nat) (a1 : Nat) (a2 : Nat) (a3 : Nat) (a4 : Nat) (a5 : Nat) (a6 : Nat) (a7 : Nat) (un : Nat → Nat) (kn : Nat → ClassId) (up : Nat → Nat) (kp : Nat → ClassId) (un2 : Nat → Nat) (kn2 : Nat → ClassId) (x_x : TX10_x) (g15 : Value) (g16 : Value) (g17 : Value) (g18 : Value) (n_n : TX4_n) (p_p : TX6_p) (n2_n : TX4_n) (h_h : TX2_h) (g23 : Value) (y_y : TX1_y) (g25 : Value) (cB26 : ClassId) (kf27 : Nat → Option Nat) (cB28 : ClassId) (sz : Nat) (hk : kf27 (((h_h.1 + h_h.2.1) - (h_h.1 + h_h.2.1) / (16 : Int32) * (16 : Int32))).toNatClampNeg = some a1) (out : (Int32 × TX10_x × TX4_n × TX4_n × TX2_h × TX1_y)) (h : f_X10_day x_x n_n p_p n2_n h_h y_y = some out) : KCi l yX10_day vfX10_day ({ frames := 5, cells := 0, slots := 0, locals := 118 }) (dC, dI) [.ref a0] sz ((a0, .inr (7, [.ref a2, g15, g16, .ref a3, .ref a4, g17, g18, .ref a5, .int x_x.1, .int x_x.2])) :: bX4 a1 un kn n_n (bX6 a2 up kp p_p (bX4 a3 un2 kn2 n2_n ([(a4, .inr (2, [.ref a6, g23, .int h_h.1, .int h_h.2.1, .int h_h.2.2])), (a5, .inr (1, [g25, .int y_y.1, .int y_y.2.1, .ref a7])), (a6, .inl (cB26, 16, .inr (.inr (.inr (.inr kf27))))), (a7, .inl (cB28, 6, .inl y_y.2.2))])))) (tX4 kn (tX6 kp (tX4 kn2 ((cB26, .object RX4) :: (cB28, .int) :: [])))) (fun (r : Int32) _ => r = out.1) ((a0, .inr (7, [.ref a2, g15, g16, .ref a3, .ref a4, g17, g18, .ref a5, .int out.2.1.1, .int out.2.1.2])) :: bX4 a1 un kn out.2.2.1 (bX6 a2 up kp p_p (bX4 a3 un2 kn2 out.2.2.2.1 ([(a4, .inr (2, [.ref a6, g23, .int out.2.2.2.2.1.1, .int out.2.2.2.2.1.2.1, .int out.2.2.2.2.1.2.2])), (a5, .inr (1, [g25, .int out.2.2.2.2.2.1, .int out.2.2.2.2.2.2.1, .ref a7])), (a6, .inl (cB26, 16, .inr (.inr (.inr (.inr kf27))))), (a7, .inl (cB28, 6, .inl out.2.2.2.2.2.2.2))])))) 0 0 := by
  refine Met.ofW (cc := cX10_day) (maxL := 2) (ret := (some .int)) (by decide) rfl ?_
  intro p e s m args below meth c s₁ B0 hml hv
  obtain ⟨rfl, hsz, hP, hK, hD0, hN⟩ := hv
  have hx := B0.exec
  have hb := B0.bytes
  have hr := B0.returns
  have hts := atoms_spec (ws := vfX10_day) B0.pre
  have hown : s.vm.findClass RX10 = some m.cls := findClass_of_methodNamed B0.named
  have hlocks := B0.notSynchronized
  subst hsz
  have hD := hD0.self (sz := s.heap.size)
  generalize hAe : va_A ((a0, .inr (7, [.ref a2, g15, g16, .ref a3, .ref a4, g17, g18, .ref a5, .int x_x.1, .int x_x.2])) :: bX4 a1 un kn n_n (bX6 a2 up kp p_p (bX4 a3 un2 kn2 n2_n ([(a4, .inr (2, [.ref a6, g23, .int h_h.1, .int h_h.2.1, .int h_h.2.2])), (a5, .inr (1, [g25, .int y_y.1, .int y_y.2.1, .ref a7])), (a6, .inl (cB26, 16, .inr (.inr (.inr (.inr kf27))))), (a7, .inl (cB28, 6, .inl y_y.2.2))])))) s.heap.size = A at hD ⊢
  have hA : ∀ q : Nat, s.heap.size ≤ q → A q := fun q h => by rw [← hAe]; exact Or.inr h
  have hS : va_S A s.heap s.heap [] := va_S.rf
  have hP : va_P (dC, dI) vwCl ((a0, .inr (7, [.ref a2, g15, g16, .ref a3, .ref a4, g17, g18, .ref a5, .int x_x.1, .int x_x.2])) :: bX4 a1 un kn n_n (bX6 a2 up kp p_p (bX4 a3 un2 kn2 n2_n ([(a4, .inr (2, [.ref a6, g23, .int h_h.1, .int h_h.2.1, .int h_h.2.2])), (a5, .inr (1, [g25, .int y_y.1, .int y_y.2.1, .ref a7])), (a6, .inl (cB26, 16, .inr (.inr (.inr (.inr kf27))))), (a7, .inl (cB28, 6, .inl y_y.2.2))])))) s.heap := hP
  have hl := lv_entry ([.ref a0]) (n := 2) (Nat.le_of_ble_eq_true rfl)
  rw [lg_entry_eq]
  generalize (lg_sl ([.ref a0]) ++ List.replicate (2 - (lg_sl ([.ref a0])).length) Slot.unset).toArray = ls at hl ⊢
  have hl : lv_has ls 2 [(0, .ref a0)] := hl
  refine W_q (fun QQ hQQ => ?_)
  rw [f_X10_day] at h
  refine lv_aload_n hx hb (zat zrX10_day_0_ok 0 rfl) rfl (lv_at hl 0 rfl) ?_
  obtain ⟨o1, eo1⟩ : ∃ o, o = f_X10_pierTrouble p_p := ⟨_, rfl⟩
  have h := nm_of h o1 eo1
  refine ck_i (wc := ((a0, .inr (7, [.ref a2, g15, g16, .ref a3, .ref a4, g17, g18, .ref a5, .int x_x.1, .int x_x.2])) :: bX6 a2 up kp p_p [])) (wr := (bX4 a1 un kn n_n (bX4 a3 un2 kn2 n2_n ([(a4, .inr (2, [.ref a6, g23, .int h_h.1, .int h_h.2.1, .int h_h.2.2])), (a5, .inr (1, [g25, .int y_y.1, .int y_y.2.1, .ref a7])), (a6, .inl (cB26, 16, .inr (.inr (.inr (.inr kf27))))), (a7, .inl (cB28, 6, .inl y_y.2.2))])))) hP hD hK hS hA [0, 6, 7, 8, 9, 10, 11, 12, 13, 14, 15] [1, 2, 3, 4, 5, 16, 17, 18, 19, 20, 21, 22, 23, 24] rfl rfl (by decide) (by decide) (by decide) (fun hPc hDc => (va_runV (As := []) (rest := []) ⟨hx, hb, hml, hown, hts⟩ (kfX10_pierTrouble l dC dI a0 a2 up kp (g15) (g16) (.ref a3) (.ref a4) (g17) (g18) (.ref a5) (.int x_x.1) (.int x_x.2) p_p s.heap.size o1 eo1.symm) (cwV 0 hts gfX10_day_0 rfl rfl rfl (by decide +kernel) ⟨(Nat.le_of_ble_eq_true rfl), (Nat.le_of_ble_eq_true rfl)⟩) (PV hPc (hK.sub (tys' := (tX6 kp ([]))) [4, 5, 6, 7, 8, 9, 10, 11, 12] rfl) hDc hN 0 rfl rfl) rfl rfl hl.1 rfl (lv_room (Nat.le_of_ble_eq_true rfl)) (zat zrX10_day_0_ok 1 rfl) ⟨(Nat.le_of_ble_eq_true rfl), (Nat.le_of_ble_eq_true rfl)⟩)) (fun r1 _ H locs hw hP hD _ hS => ?_)
  obtain rfl := hw.symm
  obtain ⟨hP, hD⟩ := pd_mk (bX4 a1 un kn n_n (bX4 a3 un2 kn2 n2_n ((a4, .inr (2, [.ref a6, g23, .int h_h.1, .int h_h.2.1, .int h_h.2.2])) :: (a5, .inr (1, [g25, .int y_y.1, .int y_y.2.1, .ref a7])) :: (a6, .inl (cB26, 16, .inr (.inr (.inr (.inr kf27))))) :: (a7, .inl (cB28, 6, .inl y_y.2.2)) :: (a0, .inr (7, [.ref a2, g15, g16, .ref a3, .ref a4, g17, g18, .ref a5, .int x_x.1, .int x_x.2])) :: bX6 a2 up kp p_p []))) hP hD
  refine lv_istore_n (lv' := [(1, .int o1), (0, .ref a0)]) hx hb (zat zrX10_day_0_ok 2 rfl) rfl hl (by decide) rfl (fun ls hl => ?_)
  refine lv_aload_n hx hb (zat zrX10_day_0_ok 3 rfl) rfl (lv_at hl 1 rfl) ?_
  refine lv_iload_n hx hb (zat zrX10_day_0_ok 4 rfl) rfl (lv_at hl 0 rfl) ?_
  have J28 : ∀ (v28_t1 : Int32) (H : Heap) (locs : List Loc) (ls : Array Slot), f_X10_day_J28 x_x n_n p_p n2_n h_h y_y v28_t1 = some out → va_P (dC, dI) vwCl (bX4 a1 un kn n_n (bX4 a3 un2 kn2 n2_n ((a4, .inr (2, [.ref a6, g23, .int h_h.1, .int h_h.2.1, .int h_h.2.2])) :: (a5, .inr (1, [g25, .int y_y.1, .int y_y.2.1, .ref a7])) :: (a6, .inl (cB26, 16, .inr (.inr (.inr (.inr kf27))))) :: (a7, .inl (cB28, 6, .inl y_y.2.2)) :: (a0, .inr (7, [.ref a2, g15, g16, .ref a3, .ref a4, g17, g18, .ref a5, .int x_x.1, .int x_x.2])) :: bX6 a2 up kp p_p []))) H → va_D A (bX4 a1 un kn n_n (bX4 a3 un2 kn2 n2_n ((a4, .inr (2, [.ref a6, g23, .int h_h.1, .int h_h.2.1, .int h_h.2.2])) :: (a5, .inr (1, [g25, .int y_y.1, .int y_y.2.1, .ref a7])) :: (a6, .inl (cB26, 16, .inr (.inr (.inr (.inr kf27))))) :: (a7, .inl (cB28, 6, .inl y_y.2.2)) :: (a0, .inr (7, [.ref a2, g15, g16, .ref a3, .ref a4, g17, g18, .ref a5, .int x_x.1, .int x_x.2])) :: bX6 a2 up kp p_p []))) → va_S A s.heap H locs → lv_has ls 2 [(0, .ref a0)] → W p l e (headSpec vfX10_day { frames := 5, cells := 0, slots := 0, locals := 118 }).room s m ([.ref a0]).toArray below meth c H locs 0 0 QQ (F0 m 28 ls [.int v28_t1, .ref a0]) := by
    intro v28_t1 H locs ls h  hP hD hS hl
    rw [f_X10_day_J28] at h
    obtain ⟨o28, eo28⟩ : ∃ o, o = f_X10_refused v28_t1 x_x := ⟨_, rfl⟩
    have h := nm_of h o28 eo28
    refine ck_i (wc := ([(a0, .inr (7, [.ref a2, g15, g16, .ref a3, .ref a4, g17, g18, .ref a5, .int x_x.1, .int x_x.2]))])) (wr := (bX4 a1 un kn n_n (bX4 a3 un2 kn2 n2_n ((a4, .inr (2, [.ref a6, g23, .int h_h.1, .int h_h.2.1, .int h_h.2.2])) :: (a5, .inr (1, [g25, .int y_y.1, .int y_y.2.1, .ref a7])) :: (a6, .inl (cB26, 16, .inr (.inr (.inr (.inr kf27))))) :: (a7, .inl (cB28, 6, .inl y_y.2.2)) :: bX6 a2 up kp p_p [])))) hP hD hK hS hA [14] [0, 1, 2, 3, 4, 5, 6, 7, 8, 9, 10, 11, 12, 13, 15, 16, 17, 18, 19, 20, 21, 22, 23, 24] rfl rfl (by decide) (by decide) (by decide) (fun hPc hDc => (va_runV (As := [.int v28_t1]) (rest := []) ⟨hx, hb, hml, hown, hts⟩ (kfX10_refused l dC dI a0 v28_t1 x_x (.ref a2) (g15) (g16) (.ref a3) (.ref a4) (g17) (g18) (.ref a5) H.size o28 eo28.symm) (cwV 1 hts gfX10_day_1 rfl rfl rfl (by decide +kernel) ⟨(Nat.le_of_ble_eq_true rfl), (Nat.le_of_ble_eq_true rfl)⟩) (PV hPc (hK.sub (tys' := ([])) [] rfl) hDc hN 0 rfl rfl) rfl rfl hl.1 rfl (lv_room (Nat.le_of_ble_eq_true rfl)) (zat zrX10_day_0_ok 14 rfl) ⟨(Nat.le_of_ble_eq_true rfl), (Nat.le_of_ble_eq_true rfl)⟩)) (fun r28 _ H locs hw hP hD _ hS => ?_)
    obtain ⟨hw, br28⟩ := hw
    obtain rfl := hw
    obtain ⟨hP, hD⟩ := pd_mk (bX4 a1 un kn n_n (bX4 a3 un2 kn2 n2_n ((a4, .inr (2, [.ref a6, g23, .int h_h.1, .int h_h.2.1, .int h_h.2.2])) :: (a5, .inr (1, [g25, .int y_y.1, .int y_y.2.1, .ref a7])) :: (a6, .inl (cB26, 16, .inr (.inr (.inr (.inr kf27))))) :: (a7, .inl (cB28, 6, .inl y_y.2.2)) :: bX6 a2 up kp p_p ([(a0, .inr (7, [.ref a2, g15, g16, .ref a3, .ref a4, g17, g18, .ref a5, .int o28.2.1, .int o28.2.2]))])))) hP hD
    refine lv_if_eq (tgt := 36) hx hb (zat zrX10_day_0_ok 15 rfl) (by decide) (fun c31 => ?_) (fun c31 => ?_)
    · have h := (if_pos c31).symm.trans h
      refine lv_aload_n hx hb (zat zrX10_day_0_ok 18 rfl) rfl (lv_at hl 0 rfl) ?_
      refine va_get (D := (dC, dI)) (ci := 7) (v := .ref a4) (C := RX10) (T := TX10) (N := 10) hx hb hts ifX10_day_X10 hown hK hP 24 rfl rfl 4 (by decide) (hts (.fieldLink RX10 36 "HookPier" "history" "LHookPier$History;") (List.mem_of_getElem? (i := 8) rfl)) (fun _ h9 => h9) rfl (zat zrX10_day_0_ok 19 rfl) ?_
      refine lv_aload_n hx hb (zat zrX10_day_0_ok 20 rfl) rfl (lv_at hl 0 rfl) ?_
      refine va_get (D := (dC, dI)) (ci := 7) (v := .ref a3) (C := RX10) (T := TX10) (N := 10) hx hb hts ifX10_day_X10 hown hK hP 24 rfl rfl 3 (by decide) (hts (.fieldLink RX10 29 "HookPier" "now" "LHookPier$Now;") (List.mem_of_getElem? (i := 9) rfl)) (fun _ h9 => h9) rfl (zat zrX10_day_0_ok 21 rfl) ?_
      obtain ⟨o44, eo44, h⟩ := bd_of h
      refine ck_v (wc := ((a4, .inr (2, [.ref a6, g23, .int h_h.1, .int h_h.2.1, .int h_h.2.2])) :: bX4 a3 un2 kn2 n2_n (bX4 a1 un kn n_n ([(a6, .inl (cB26, 16, .inr (.inr (.inr (.inr kf27)))))])))) (wr := ((a5, .inr (1, [g25, .int y_y.1, .int y_y.2.1, .ref a7])) :: (a7, .inl (cB28, 6, .inl y_y.2.2)) :: bX6 a2 up kp p_p ([(a0, .inr (7, [.ref a2, g15, g16, .ref a3, .ref a4, g17, g18, .ref a5, .int o28.2.1, .int o28.2.2]))]))) hP hD hK hS hA [10, 5, 6, 7, 8, 9, 0, 1, 2, 3, 4, 12] [11, 13, 14, 15, 16, 17, 18, 19, 20, 21, 22, 23, 24] rfl rfl (by decide) (by decide) (by decide) (fun hPc hDc => (va_runV (As := [.ref a3]) (rest := []) ⟨hx, hb, hml, hown, hts⟩ (kfX2_keep l dC dI a4 a3 a1 a6 un2 kn2 un kn h_h (g23) n2_n n_n cB26 kf27 H.size hk o44 eo44) (cwV 1 hts gfX10_day_2 rfl rfl rfl (by decide +kernel) ⟨(Nat.le_of_ble_eq_true rfl), (Nat.le_of_ble_eq_true rfl)⟩) (PV hPc (hK.sub (tys' := (tX4 kn2 (tX4 kn ((cB26, .object RX4) :: [])))) [13, 14, 15, 16, 0, 1, 2, 3, 17] rfl) hDc hN 0 rfl rfl) rfl rfl hl.1 rfl (lv_room (Nat.le_of_ble_eq_true rfl)) (zat zrX10_day_0_ok 22 rfl) ⟨(Nat.le_of_ble_eq_true rfl), (Nat.le_of_ble_eq_true rfl)⟩)) (fun _ H locs hw hP hD _ hS => ?_)
      obtain ⟨hP, hD⟩ := pd_mk ((a5, .inr (1, [g25, .int y_y.1, .int y_y.2.1, .ref a7])) :: (a7, .inl (cB28, 6, .inl y_y.2.2)) :: bX6 a2 up kp p_p ((a0, .inr (7, [.ref a2, g15, g16, .ref a3, .ref a4, g17, g18, .ref a5, .int o28.2.1, .int o28.2.2])) :: (a4, .inr (2, [.ref a6, g23, .int o44.1.1, .int o44.1.2.1, .int o44.1.2.2])) :: bX4 a3 un2 kn2 n2_n (bX4 a1 un kn o44.2 ([(a6, .inl (cB26, 16, .inr (.inr (.inr (.inr kf27)))))])))) hP hD
      refine lv_aload_n hx hb (zat zrX10_day_0_ok 23 rfl) rfl (lv_at hl 0 rfl) ?_
      refine va_get (D := (dC, dI)) (ci := 7) (v := .ref a5) (C := RX10) (T := TX10) (N := 10) hx hb hts ifX10_day_X10 hown hK hP 12 rfl rfl 7 (by decide) (hts (.fieldLink RX10 57 "HookPier" "days" "LHookPier$Days;") (List.mem_of_getElem? (i := 14) rfl)) (fun _ h9 => h9) rfl (zat zrX10_day_0_ok 24 rfl) ?_
      refine lv_aload_n hx hb (zat zrX10_day_0_ok 25 rfl) rfl (lv_at hl 0 rfl) ?_
      refine va_get (D := (dC, dI)) (ci := 7) (v := .ref a2) (C := RX10) (T := TX10) (N := 10) hx hb hts ifX10_day_X10 hown hK hP 12 rfl rfl 0 (by decide) (hts (.fieldLink RX10 10 "HookPier" "plan" "LHookPier$Plan;") (List.mem_of_getElem? (i := 15) rfl)) (fun _ h9 => h9) rfl (zat zrX10_day_0_ok 26 rfl) ?_
      refine lv_aload_n hx hb (zat zrX10_day_0_ok 27 rfl) rfl (lv_at hl 0 rfl) ?_
      refine va_get (D := (dC, dI)) (ci := 7) (v := .ref a3) (C := RX10) (T := TX10) (N := 10) hx hb hts ifX10_day_X10 hown hK hP 12 rfl rfl 3 (by decide) (hts (.fieldLink RX10 29 "HookPier" "now" "LHookPier$Now;") (List.mem_of_getElem? (i := 9) rfl)) (fun _ h9 => h9) rfl (zat zrX10_day_0_ok 28 rfl) ?_
      obtain ⟨o59, eo59, h⟩ := bd_of h
      refine ck_i (wc := ((a5, .inr (1, [g25, .int y_y.1, .int y_y.2.1, .ref a7])) :: bX6 a2 up kp p_p (bX4 a3 un2 kn2 n2_n ([(a7, .inl (cB28, 6, .inl y_y.2.2))])))) (wr := ((a0, .inr (7, [.ref a2, g15, g16, .ref a3, .ref a4, g17, g18, .ref a5, .int o28.2.1, .int o28.2.2])) :: (a4, .inr (2, [.ref a6, g23, .int o44.1.1, .int o44.1.2.1, .int o44.1.2.2])) :: bX4 a1 un kn o44.2 ([(a6, .inl (cB26, 16, .inr (.inr (.inr (.inr kf27)))))]))) hP hD hK hS hA [0, 2, 3, 4, 5, 6, 7, 8, 9, 10, 11, 14, 15, 16, 17, 18, 1] [12, 13, 19, 20, 21, 22, 23, 24] rfl rfl (by decide) (by decide) (by decide) (fun hPc hDc => (va_runV (As := [.ref a2, .ref a3]) (rest := []) ⟨hx, hb, hml, hown, hts⟩ (kfX1_pass l dC dI a5 a2 a3 a7 up kp un2 kn2 y_y (g25) p_p n2_n cB28 H.size o59 eo59) (cwV 2 hts gfX10_day_3 rfl rfl rfl (by decide +kernel) ⟨(Nat.le_of_ble_eq_true rfl), (Nat.le_of_ble_eq_true rfl)⟩) (PV hPc (hK.sub (tys' := (tX6 kp (tX4 kn2 ((cB28, .int) :: [])))) [4, 5, 6, 7, 8, 9, 10, 11, 12, 13, 14, 15, 16, 18] rfl) hDc hN 0 rfl rfl) rfl rfl hl.1 rfl (lv_room (Nat.le_of_ble_eq_true rfl)) (zat zrX10_day_0_ok 29 rfl) ⟨(Nat.le_of_ble_eq_true rfl), (Nat.le_of_ble_eq_true rfl)⟩)) (fun r59 _ H locs hw hP hD _ hS => ?_)
      obtain rfl := hw
      obtain ⟨hP, hD⟩ := pd_mk ((a0, .inr (7, [.ref a2, g15, g16, .ref a3, .ref a4, g17, g18, .ref a5, .int o28.2.1, .int o28.2.2])) :: (a4, .inr (2, [.ref a6, g23, .int o44.1.1, .int o44.1.2.1, .int o44.1.2.2])) :: bX4 a1 un kn o44.2 ((a6, .inl (cB26, 16, .inr (.inr (.inr (.inr kf27))))) :: (a5, .inr (1, [g25, .int o59.2.1.1, .int o59.2.1.2.1, .ref a7])) :: bX6 a2 up kp p_p (bX4 a3 un2 kn2 o59.2.2 ([(a7, .inl (cB28, 6, .inl o59.2.1.2.2))])))) hP hD
      obtain rfl := Option.some.inj h
      obtain ⟨hP9, hD9⟩ := pd_sub ((a0, .inr (7, [.ref a2, g15, g16, .ref a3, .ref a4, g17, g18, .ref a5, .int o28.2.1, .int o28.2.2])) :: bX4 a1 un kn o44.2 (bX6 a2 up kp p_p (bX4 a3 un2 kn2 o59.2.2 ([(a4, .inr (2, [.ref a6, g23, .int o44.1.1, .int o44.1.2.1, .int o44.1.2.2])), (a5, .inr (1, [g25, .int o59.2.1.1, .int o59.2.1.2.1, .ref a7])), (a6, .inl (cB26, 16, .inr (.inr (.inr (.inr kf27))))), (a7, .inl (cB28, 6, .inl o59.2.1.2.2))])))) [0, 2, 3, 4, 5, 6, 9, 10, 11, 12, 13, 14, 15, 16, 17, 18, 19, 20, 21, 22, 23, 1, 8, 7, 24] hP hD (by decide) rfl
      have hK9 := hK.sub (tys' := []) [] rfl
      rw [hQQ]
      exact W.iret (v := o59.1) hx hb hr (fun t ht hW => ⟨⟨o59.1, (), rfl, rfl, by rw [ht]; exact hP9, va_K.moved hW.alike hK9, hD9⟩, hS.F ht⟩) hS.2.2 (zat zrX10_day_0_ok 30 rfl)
    · have h := (if_neg c31).symm.trans h
      refine lv_iconst (v := (-1)) hx hb (zat zrX10_day_0_ok 16 rfl) (by decide) ?_
      obtain rfl := Option.some.inj h
      obtain ⟨hP9, hD9⟩ := pd_sub ((a0, .inr (7, [.ref a2, g15, g16, .ref a3, .ref a4, g17, g18, .ref a5, .int o28.2.1, .int o28.2.2])) :: bX4 a1 un kn n_n (bX6 a2 up kp p_p (bX4 a3 un2 kn2 n2_n ([(a4, .inr (2, [.ref a6, g23, .int h_h.1, .int h_h.2.1, .int h_h.2.2])), (a5, .inr (1, [g25, .int y_y.1, .int y_y.2.1, .ref a7])), (a6, .inl (cB26, 16, .inr (.inr (.inr (.inr kf27))))), (a7, .inl (cB28, 6, .inl y_y.2.2))])))) [24, 0, 1, 2, 3, 4, 14, 15, 16, 17, 18, 19, 20, 21, 22, 23, 5, 6, 7, 8, 9, 10, 11, 12, 13] hP hD (by decide) rfl
      have hK9 := hK.sub (tys' := []) [] rfl
      rw [hQQ]
      exact W.iret (v := (-1 : Int32)) hx hb hr (fun t ht hW => ⟨⟨(-1 : Int32), (), rfl, rfl, by rw [ht]; exact hP9, va_K.moved hW.alike hK9, hD9⟩, hS.F ht⟩) hS.2.2 (zat zrX10_day_0_ok 17 rfl)
  have J27 : ∀ (H : Heap) (locs : List Loc) (ls : Array Slot), f_X10_day_J27 x_x n_n p_p n2_n h_h y_y o1 = some out → va_P (dC, dI) vwCl (bX4 a1 un kn n_n (bX4 a3 un2 kn2 n2_n ((a4, .inr (2, [.ref a6, g23, .int h_h.1, .int h_h.2.1, .int h_h.2.2])) :: (a5, .inr (1, [g25, .int y_y.1, .int y_y.2.1, .ref a7])) :: (a6, .inl (cB26, 16, .inr (.inr (.inr (.inr kf27))))) :: (a7, .inl (cB28, 6, .inl y_y.2.2)) :: (a0, .inr (7, [.ref a2, g15, g16, .ref a3, .ref a4, g17, g18, .ref a5, .int x_x.1, .int x_x.2])) :: bX6 a2 up kp p_p []))) H → va_D A (bX4 a1 un kn n_n (bX4 a3 un2 kn2 n2_n ((a4, .inr (2, [.ref a6, g23, .int h_h.1, .int h_h.2.1, .int h_h.2.2])) :: (a5, .inr (1, [g25, .int y_y.1, .int y_y.2.1, .ref a7])) :: (a6, .inl (cB26, 16, .inr (.inr (.inr (.inr kf27))))) :: (a7, .inl (cB28, 6, .inl y_y.2.2)) :: (a0, .inr (7, [.ref a2, g15, g16, .ref a3, .ref a4, g17, g18, .ref a5, .int x_x.1, .int x_x.2])) :: bX6 a2 up kp p_p []))) → va_S A s.heap H locs → lv_has ls 2 [(1, .int o1), (0, .ref a0)] → W p l e (headSpec vfX10_day { frames := 5, cells := 0, slots := 0, locals := 118 }).room s m ([.ref a0]).toArray below meth c H locs 0 0 QQ (F0 m 27 ls [.ref a0]) := by
    intro  H locs ls h  hP hD hS hl
    rw [f_X10_day_J27] at h
    refine lv_iload_n hx hb (zat zrX10_day_0_ok 13 rfl) rfl (lv_at hl 0 rfl) ?_
    exact J28 o1 H _ ls h  hP hD hS (lv_sub hl [1] rfl)
  refine lv_if_ne (tgt := 27) hx hb (zat zrX10_day_0_ok 5 rfl) (by decide) (fun c7 => ?_) (fun c7 => ?_)
  · have h := (if_neg c7).symm.trans h
    exact J27  H _ ls h  hP hD hS (lv_sub hl [0, 1] rfl)
  · have h := (if_pos c7).symm.trans h
    refine lv_aload_n hx hb (zat zrX10_day_0_ok 6 rfl) rfl (lv_at hl 1 rfl) ?_
    refine va_get (D := (dC, dI)) (ci := 7) (v := .ref a3) (C := RX10) (T := TX10) (N := 10) hx hb hts ifX10_day_X10 hown hK hP 14 rfl rfl 3 (by decide) (hts (.fieldLink RX10 29 "HookPier" "now" "LHookPier$Now;") (List.mem_of_getElem? (i := 9) rfl)) (fun _ h9 => h9) rfl (zat zrX10_day_0_ok 7 rfl) ?_
    refine va_get (D := (dC, dI)) (ci := 3) (v := .int n2_n.1) (C := RX4) (T := TX4) (N := 7) hx hb hts ifX10_day_X4 hown hK hP 5 rfl rfl 0 (by decide) (hts (.fieldLink RX10 134 "HookPier$Now" "today" "I") (List.mem_of_getElem? (i := 20) rfl)) (fun _ h9 => h9) rfl (zat zrX10_day_0_ok 8 rfl) ?_
    refine lv_sipush (v := 999) hx hb (zat zrX10_day_0_ok 9 rfl) (by decide) ?_
    refine lv_icmp_lt (tgt := 27) hx hb (zat zrX10_day_0_ok 10 rfl) (by decide) (fun c20 => ?_) (fun c20 => ?_)
    · have h := (if_pos c20).symm.trans h
      exact J27  H _ ls h  hP hD hS (lv_sub hl [0, 1] rfl)
    · have h := (if_neg c20).symm.trans h
      refine lv_iconst (v := 3) hx hb (zat zrX10_day_0_ok 11 rfl) (by decide) ?_
      refine lv_goto (tgt := 28) hx hb (zat zrX10_day_0_ok 12 rfl) (by decide) ?_
      exact J28 (3 : Int32) H _ ls h  hP hD hS (lv_sub hl [1] rfl)
noncomputable def zrX10_numberTrouble_0 : List ZR := zc 0 true (.aload_n 0) 1 (zc 1 true (.invokevirtual 216) 3 (zc 4 true (.istore_n 2) 1 (zc 5 true (.iload_n 2) 1 (zc 6 true (.ifCond .ne 11) 3 (zc 9 true (.iload_n 1) 1 (zc 10 true (.ifCond .ne 7) 3 (zc 13 true (.iconst 2) 1 (zc 14 true (.goto 4) 3 (zc 17 true (.iload_n 2) 1 (zc 18 true (.ireturn) 1 ([])))))))))))
theorem zrX10_numberTrouble_0_ok : zck 0 ((zby cX10_numberTrouble).drop 0) zrX10_numberTrouble_0 = true := by decide +kernel
def vfX10_numberTrouble : List Cond := List.cons (.code yX10_numberTrouble cX10_numberTrouble 3 (some .int)) (apW [.methodLink RX10 216 yX10_pierTrouble, .instanceMethod yX10_pierTrouble, .selects RX10 yX10_pierTrouble yX10_pierTrouble, .initialized RX10] (vfX10_pierTrouble))
theorem qfX10_numberTrouble : Good vfX10_numberTrouble := gd_cons (by decide +kernel) (gd_app (gd_dec (by decide +kernel) : Good [.methodLink RX10 216 yX10_pierTrouble, .instanceMethod yX10_pierTrouble, .selects RX10 yX10_pierTrouble yX10_pierTrouble, .initialized RX10]) qfX10_pierTrouble)
theorem gfX10_numberTrouble_0 : GoodIn vfX10_numberTrouble (wsV RX10 216 RX10 yX10_pierTrouble vfX10_pierTrouble) := goodIn_app (goodIn_r [.methodLink RX10 216 yX10_pierTrouble, .instanceMethod yX10_pierTrouble, .selects RX10 yX10_pierTrouble yX10_pierTrouble, .initialized RX10] [1, 2, 3, 4] rfl (by decide +kernel)) (goodIn_m (fun _ h => (List.mem_cons_of_mem _ (List.mem_append_right _ h))) qfX10_pierTrouble)
set_option maxHeartbeats 2000000 in
set_option maxRecDepth 100000 in
theorem kfX10_numberTrouble (l : Launch) (dC : Nat → ClassId) (dI : Nat → Nat → Nat) (a0 : Nat) (k1 : Int32) (a2 : Nat) (up : Nat → Nat) (kp : Nat → ClassId) (g5 : Value) (g6 : Value) (g7 : Value) (g8 : Value) (g9 : Value) (g10 : Value) (g11 : Value) (g12 : Value) (g13 : Value) (p_p : TX6_p) (sz : Nat) (out : Int32) (h : f_X10_numberTrouble k1 p_p = out) : KDi l yX10_numberTrouble vfX10_numberTrouble ({ frames := 1, cells := 0, slots := 0, locals := 20 }) (dC, dI) [.ref a0, .int k1] sz ((a0, .inr (7, [.ref a2, g5, g6, g7, g8, g9, g10, g11, g12, g13])) :: bX6 a2 up kp p_p []) (tX6 kp ([])) (fun (r : Int32) _ => r = out) 0 0 := by
  refine Met.ofW (cc := cX10_numberTrouble) (maxL := 3) (ret := (some .int)) (by decide) rfl ?_
  intro p e s m args below meth c s₁ B0 hml hv
  obtain ⟨rfl, hsz, hP, hK, hD0, hN⟩ := hv
  have hx := B0.exec
  have hb := B0.bytes
  have hr := B0.returns
  have hts := atoms_spec (ws := vfX10_numberTrouble) B0.pre
  have hown : s.vm.findClass RX10 = some m.cls := findClass_of_methodNamed B0.named
  have hlocks := B0.notSynchronized
  subst hsz
  have hD := hD0.self (sz := s.heap.size)
  generalize hAe : va_A ((a0, .inr (7, [.ref a2, g5, g6, g7, g8, g9, g10, g11, g12, g13])) :: bX6 a2 up kp p_p []) s.heap.size = A at hD ⊢
  have hA : ∀ q : Nat, s.heap.size ≤ q → A q := fun q h => by rw [← hAe]; exact Or.inr h
  have hS : va_S A s.heap s.heap [] := va_S.rf
  have hP : va_P (dC, dI) vwCl ((a0, .inr (7, [.ref a2, g5, g6, g7, g8, g9, g10, g11, g12, g13])) :: bX6 a2 up kp p_p []) s.heap := hP
  have hl := lv_entry ([.ref a0, .int k1]) (n := 3) (Nat.le_of_ble_eq_true rfl)
  rw [lg_entry_eq]
  generalize (lg_sl ([.ref a0, .int k1]) ++ List.replicate (3 - (lg_sl ([.ref a0, .int k1])).length) Slot.unset).toArray = ls at hl ⊢
  have hl : lv_has ls 3 [(0, .ref a0), (1, .int k1)] := hl
  refine W_q (fun QQ hQQ => ?_)
  rw [f_X10_numberTrouble] at h
  refine lv_aload_n hx hb (zat zrX10_numberTrouble_0_ok 0 rfl) rfl (lv_at hl 0 rfl) ?_
  obtain ⟨o1, eo1⟩ : ∃ o, o = f_X10_pierTrouble p_p := ⟨_, rfl⟩
  have h := nm_of h o1 eo1
  refine ck_i (wc := ((a0, .inr (7, [.ref a2, g5, g6, g7, g8, g9, g10, g11, g12, g13])) :: bX6 a2 up kp p_p [])) (wr := []) hP hD hK hS hA [0, 1, 2, 3, 4, 5, 6, 7, 8, 9, 10] [] rfl rfl (by decide) (by decide) (by decide) (fun hPc hDc => (va_runV (As := []) (rest := []) ⟨hx, hb, hml, hown, hts⟩ (kfX10_pierTrouble l dC dI a0 a2 up kp (g5) (g6) (g7) (g8) (g9) (g10) (g11) (g12) (g13) p_p s.heap.size o1 eo1.symm) (cwV 0 hts gfX10_numberTrouble_0 rfl rfl rfl (by decide +kernel) ⟨(Nat.le_of_ble_eq_true rfl), (Nat.le_of_ble_eq_true rfl)⟩) (PV hPc (hK.sub (tys' := (tX6 kp ([]))) [0, 1, 2, 3, 4, 5, 6, 7, 8] rfl) hDc hN 0 rfl rfl) rfl rfl hl.1 rfl (lv_room (Nat.le_of_ble_eq_true rfl)) (zat zrX10_numberTrouble_0_ok 1 rfl) ⟨(Nat.le_of_ble_eq_true rfl), (Nat.le_of_ble_eq_true rfl)⟩)) (fun r1 _ H locs hw hP hD _ hS => ?_)
  obtain rfl := hw.symm
  obtain ⟨hP, hD⟩ := pd_mk ((a0, .inr (7, [.ref a2, g5, g6, g7, g8, g9, g10, g11, g12, g13])) :: bX6 a2 up kp p_p []) hP hD
  refine lv_istore_n (lv' := [(2, .int o1), (0, .ref a0), (1, .int k1)]) hx hb (zat zrX10_numberTrouble_0_ok 2 rfl) rfl hl (by decide) rfl (fun ls hl => ?_)
  refine lv_iload_n hx hb (zat zrX10_numberTrouble_0_ok 3 rfl) rfl (lv_at hl 0 rfl) ?_
  have J17 : ∀ (H : Heap) (locs : List Loc) (ls : Array Slot), f_X10_numberTrouble_J17 o1 = out → va_P (dC, dI) vwCl ((a0, .inr (7, [.ref a2, g5, g6, g7, g8, g9, g10, g11, g12, g13])) :: bX6 a2 up kp p_p []) H → va_D A ((a0, .inr (7, [.ref a2, g5, g6, g7, g8, g9, g10, g11, g12, g13])) :: bX6 a2 up kp p_p []) → va_S A s.heap H locs → lv_has ls 3 [(2, .int o1)] → W p l e (headSpec vfX10_numberTrouble { frames := 1, cells := 0, slots := 0, locals := 20 }).room s m ([.ref a0, .int k1]).toArray below meth c H locs 0 0 QQ (F0 m 17 ls []) := by
    intro  H locs ls h  hP hD hS hl
    rw [f_X10_numberTrouble_J17] at h
    refine lv_iload_n hx hb (zat zrX10_numberTrouble_0_ok 9 rfl) rfl (lv_at hl 0 rfl) ?_
    obtain rfl := h
    obtain ⟨hP9, hD9⟩ := pd_sub ((a0, .inr (7, [.ref a2, g5, g6, g7, g8, g9, g10, g11, g12, g13])) :: bX6 a2 up kp p_p []) [0, 1, 2, 3, 4, 5, 6, 7, 8, 9, 10] hP hD (by decide) rfl
    have hK9 := hK.sub (tys' := []) [] rfl
    rw [hQQ]
    exact W.iret (v := o1) hx hb hr (fun t ht hW => ⟨⟨o1, (), rfl, rfl, by rw [ht]; exact hP9, va_K.moved hW.alike hK9, hD9⟩, hS.F ht⟩) hS.2.2 (zat zrX10_numberTrouble_0_ok 10 rfl)
  refine lv_if_ne (tgt := 17) hx hb (zat zrX10_numberTrouble_0_ok 4 rfl) (by decide) (fun c6 => ?_) (fun c6 => ?_)
  · have h := (if_neg c6).symm.trans h
    exact J17  H _ ls h  hP hD hS (lv_sub hl [0] rfl)
  · have h := (if_pos c6).symm.trans h
    refine lv_iload_n hx hb (zat zrX10_numberTrouble_0_ok 5 rfl) rfl (lv_at hl 2 rfl) ?_
    refine lv_if_ne (tgt := 17) hx hb (zat zrX10_numberTrouble_0_ok 6 rfl) (by decide) (fun c10 => ?_) (fun c10 => ?_)
    · have h := (if_neg c10).symm.trans h
      exact J17  H _ ls h  hP hD hS (lv_sub hl [0] rfl)
    · have h := (if_pos c10).symm.trans h
      refine lv_iconst (v := 2) hx hb (zat zrX10_numberTrouble_0_ok 7 rfl) (by decide) ?_
      refine lv_goto (tgt := 18) hx hb (zat zrX10_numberTrouble_0_ok 8 rfl) (by decide) ?_
      obtain rfl := h
      obtain ⟨hP9, hD9⟩ := pd_sub ((a0, .inr (7, [.ref a2, g5, g6, g7, g8, g9, g10, g11, g12, g13])) :: bX6 a2 up kp p_p []) [0, 1, 2, 3, 4, 5, 6, 7, 8, 9, 10] hP hD (by decide) rfl
      have hK9 := hK.sub (tys' := []) [] rfl
      rw [hQQ]
      exact W.iret (v := (2 : Int32)) hx hb hr (fun t ht hW => ⟨⟨(2 : Int32), (), rfl, rfl, by rw [ht]; exact hP9, va_K.moved hW.alike hK9, hD9⟩, hS.F ht⟩) hS.2.2 (zat zrX10_numberTrouble_0_ok 10 rfl)
noncomputable def zrX10_seed_0 : List ZR := zc 0 true (.aload_n 0) 1 (zc 1 true (.aload_n 0) 1 (zc 2 true (.iload_n 1) 1 (zc 3 true (.iconst 0) 1 (zc 4 true (.ldc_w 350) 3 (zc 7 true (.invokestatic 75) 3 (zc 10 true (.invokevirtual 169) 3 (zc 13 true (.invokevirtual 79) 3 (zc 16 true (.ifCond .eq 5) 3 (zc 19 true (.iconst 0) 1 (zc 20 true (.ireturn) 1 (zc 21 true (.aload_n 0) 1 (zc 22 true (.getfield 29) 3 (zc 25 true (.iload_n 1) 1 (zc 26 true (.putfield 351) 3 (zc 29 true (.iconst 1) 1 (zc 30 true (.ireturn) 1 ([])))))))))))))))))
theorem zrX10_seed_0_ok : zck 0 ((zby cX10_seed).drop 0) zrX10_seed_0 = true := by decide +kernel
def vfX10_seed : List Cond := List.cons (.code yX10_seed cX10_seed 2 (some .boolean)) (apW [.constant RX10 350 (65536), .methodLink RX10 75 yX10_within, .static yX10_within, .initialized RX10, .methodLink RX10 169 yX10_numberTrouble, .instanceMethod yX10_numberTrouble, .selects RX10 yX10_numberTrouble yX10_numberTrouble, .methodLink RX10 79 yX10_refused, .instanceMethod yX10_refused, .selects RX10 yX10_refused yX10_refused, .fieldLink RX10 29 "HookPier" "now" "LHookPier$Now;", .fieldLink RX10 351 "HookPier$Now" "seedNow" "I"] (apW wsX100 (apW wsX40 (apW vfX10_within (apW vfX10_numberTrouble (vfX10_refused))))))
theorem ifX10_seed_X10 : ∀ w ∈ wsX100, w ∈ vfX10_seed := fun _ h => (List.mem_cons_of_mem _ (List.mem_append_right _ (List.mem_append_left _ h)))
theorem ifX10_seed_X4 : ∀ w ∈ wsX40, w ∈ vfX10_seed := fun _ h => (List.mem_cons_of_mem _ (List.mem_append_right _ (List.mem_append_right _ (List.mem_append_left _ h))))
theorem qfX10_seed : Good vfX10_seed := gd_cons (by decide +kernel) (gd_app (gd_dec (by decide +kernel) : Good [.constant RX10 350 (65536), .methodLink RX10 75 yX10_within, .static yX10_within, .initialized RX10, .methodLink RX10 169 yX10_numberTrouble, .instanceMethod yX10_numberTrouble, .selects RX10 yX10_numberTrouble yX10_numberTrouble, .methodLink RX10 79 yX10_refused, .instanceMethod yX10_refused, .selects RX10 yX10_refused yX10_refused, .fieldLink RX10 29 "HookPier" "now" "LHookPier$Now;", .fieldLink RX10 351 "HookPier$Now" "seedNow" "I"]) (gd_app qsX10 (gd_app qsX4 (gd_app qfX10_within (gd_app qfX10_numberTrouble qfX10_refused)))))
theorem gfX10_seed_0 : GoodIn vfX10_seed (va_wsS RX10 75 yX10_within vfX10_within) := goodIn_app (goodIn_r [.methodLink RX10 75 yX10_within, .static yX10_within, .initialized RX10] [2, 3, 4] rfl (by decide +kernel)) (goodIn_m (fun _ h => (List.mem_cons_of_mem _ (List.mem_append_right _ (List.mem_append_right _ (List.mem_append_right _ (List.mem_append_left _ h)))))) qfX10_within)
theorem gfX10_seed_1 : GoodIn vfX10_seed (wsV RX10 169 RX10 yX10_numberTrouble vfX10_numberTrouble) := goodIn_app (goodIn_r [.methodLink RX10 169 yX10_numberTrouble, .instanceMethod yX10_numberTrouble, .selects RX10 yX10_numberTrouble yX10_numberTrouble, .initialized RX10] [5, 6, 7, 4] rfl (by decide +kernel)) (goodIn_m (fun _ h => (List.mem_cons_of_mem _ (List.mem_append_right _ (List.mem_append_right _ (List.mem_append_right _ (List.mem_append_right _ (List.mem_append_left _ h))))))) qfX10_numberTrouble)
theorem gfX10_seed_2 : GoodIn vfX10_seed (wsV RX10 79 RX10 yX10_refused vfX10_refused) := goodIn_app (goodIn_r [.methodLink RX10 79 yX10_refused, .instanceMethod yX10_refused, .selects RX10 yX10_refused yX10_refused, .initialized RX10] [8, 9, 10, 4] rfl (by decide +kernel)) (goodIn_m (fun _ h => (List.mem_cons_of_mem _ (List.mem_append_right _ (List.mem_append_right _ (List.mem_append_right _ (List.mem_append_right _ (List.mem_append_right _ h))))))) qfX10_refused)
set_option maxHeartbeats 2000000 in
set_option maxRecDepth 100000 in
theorem kfX10_seed (l : Launch) (dC : Nat → ClassId) (dI : Nat → Nat → Nat) (a0 : Nat) (k1 : Int32) (a2 : Nat) (a3 : Nat) (up : Nat → Nat) (kp : Nat → ClassId) (un : Nat → Nat) (kn : Nat → ClassId) (x_x : TX10_x) (g9 : Value) (g10 : Value) (g11 : Value) (g12 : Value) (g13 : Value) (g14 : Value) (p_p : TX6_p) (n_n : TX4_n) (sz : Nat) (out : (Int32 × TX10_x × TX4_n)) (h : f_X10_seed k1 x_x p_p n_n = out) : KCi l yX10_seed vfX10_seed ({ frames := 2, cells := 0, slots := 0, locals := 42 }) (dC, dI) [.ref a0, .int k1] sz ((a0, .inr (7, [.ref a2, g9, g10, .ref a3, g11, g12, g13, g14, .int x_x.1, .int x_x.2])) :: bX6 a2 up kp p_p (bX4 a3 un kn n_n [])) (tX6 kp (tX4 kn ([]))) (fun (r : Int32) _ => r = out.1 ∧ (0 ≤ r.toInt ∧ r.toInt ≤ 1)) ((a0, .inr (7, [.ref a2, g9, g10, .ref a3, g11, g12, g13, g14, .int out.2.1.1, .int out.2.1.2])) :: bX6 a2 up kp p_p (bX4 a3 un kn out.2.2 [])) 0 0 := by
  refine Met.ofW (cc := cX10_seed) (maxL := 2) (ret := (some .boolean)) (by decide) rfl ?_
  intro p e s m args below meth c s₁ B0 hml hv
  obtain ⟨rfl, hsz, hP, hK, hD0, hN⟩ := hv
  have hx := B0.exec
  have hb := B0.bytes
  have hr := B0.returns
  have hts := atoms_spec (ws := vfX10_seed) B0.pre
  have hown : s.vm.findClass RX10 = some m.cls := findClass_of_methodNamed B0.named
  have hlocks := B0.notSynchronized
  subst hsz
  have hD := hD0.self (sz := s.heap.size)
  generalize hAe : va_A ((a0, .inr (7, [.ref a2, g9, g10, .ref a3, g11, g12, g13, g14, .int x_x.1, .int x_x.2])) :: bX6 a2 up kp p_p (bX4 a3 un kn n_n [])) s.heap.size = A at hD ⊢
  have hA : ∀ q : Nat, s.heap.size ≤ q → A q := fun q h => by rw [← hAe]; exact Or.inr h
  have hS : va_S A s.heap s.heap [] := va_S.rf
  have hP : va_P (dC, dI) vwCl ((a0, .inr (7, [.ref a2, g9, g10, .ref a3, g11, g12, g13, g14, .int x_x.1, .int x_x.2])) :: bX6 a2 up kp p_p (bX4 a3 un kn n_n [])) s.heap := hP
  have hl := lv_entry ([.ref a0, .int k1]) (n := 2) (Nat.le_of_ble_eq_true rfl)
  rw [lg_entry_eq]
  generalize (lg_sl ([.ref a0, .int k1]) ++ List.replicate (2 - (lg_sl ([.ref a0, .int k1])).length) Slot.unset).toArray = ls at hl ⊢
  have hl : lv_has ls 2 [(0, .ref a0), (1, .int k1)] := hl
  refine W_q (fun QQ hQQ => ?_)
  rw [f_X10_seed] at h
  refine lv_aload_n hx hb (zat zrX10_seed_0_ok 0 rfl) rfl (lv_at hl 0 rfl) ?_
  refine lv_aload_n hx hb (zat zrX10_seed_0_ok 1 rfl) rfl (lv_at hl 0 rfl) ?_
  refine lv_iload_n hx hb (zat zrX10_seed_0_ok 2 rfl) rfl (lv_at hl 1 rfl) ?_
  refine lv_iconst (v := 0) hx hb (zat zrX10_seed_0_ok 3 rfl) (by decide) ?_
  refine lv_ldcw hx hb hown (hts (.constant RX10 350 (65536)) (List.mem_of_getElem? (i := 1) rfl)) (zat zrX10_seed_0_ok 4 rfl) ?_
  obtain ⟨o7, eo7⟩ : ∃ o, o = f_X10_within k1 (0 : Int32) (65536 : Int32) := ⟨_, rfl⟩
  have h := nm_of h o7 eo7
  refine ck_i (wc := []) (wr := ((a0, .inr (7, [.ref a2, g9, g10, .ref a3, g11, g12, g13, g14, .int x_x.1, .int x_x.2])) :: bX6 a2 up kp p_p (bX4 a3 un kn n_n []))) hP hD hK hS hA [] [0, 1, 2, 3, 4, 5, 6, 7, 8, 9, 10, 11, 12, 13, 14, 15] rfl rfl (by decide) (by decide) (by decide) (fun hPc hDc => (va_runS (As := [.int k1, .int 0, .int 65536]) (rest := [.ref a0, .ref a0]) ⟨hx, hb, hml, hown, hts⟩ (kfX10_within l dC dI k1 (0 : Int32) (65536 : Int32) s.heap.size o7 eo7.symm) (va_cwS 3 hts gfX10_seed_0 rfl rfl rfl (by decide +kernel) ⟨(Nat.le_of_ble_eq_true rfl), (Nat.le_of_ble_eq_true rfl)⟩) (PS hPc (hK.sub (tys' := ([])) [] rfl) hDc hN) rfl rfl hl.1 rfl (lv_room (Nat.le_of_ble_eq_true rfl)) (zat zrX10_seed_0_ok 5 rfl) ⟨(Nat.le_of_ble_eq_true rfl), (Nat.le_of_ble_eq_true rfl)⟩)) (fun r7 _ H locs hw hP hD _ hS => ?_)
  obtain ⟨hw, br7⟩ := hw
  obtain rfl := hw.symm
  obtain ⟨hP, hD⟩ := pd_mk ((a0, .inr (7, [.ref a2, g9, g10, .ref a3, g11, g12, g13, g14, .int x_x.1, .int x_x.2])) :: bX6 a2 up kp p_p (bX4 a3 un kn n_n [])) hP hD
  obtain ⟨o10, eo10⟩ : ∃ o, o = f_X10_numberTrouble o7 p_p := ⟨_, rfl⟩
  have h := nm_of h o10 eo10
  refine ck_i (wc := ((a0, .inr (7, [.ref a2, g9, g10, .ref a3, g11, g12, g13, g14, .int x_x.1, .int x_x.2])) :: bX6 a2 up kp p_p [])) (wr := (bX4 a3 un kn n_n [])) hP hD hK hS hA [0, 1, 2, 3, 4, 5, 6, 7, 8, 9, 10] [11, 12, 13, 14, 15] rfl rfl (by decide) (by decide) (by decide) (fun hPc hDc => (va_runV (As := [.int o7]) (rest := [.ref a0]) ⟨hx, hb, hml, hown, hts⟩ (kfX10_numberTrouble l dC dI a0 o7 a2 up kp (g9) (g10) (.ref a3) (g11) (g12) (g13) (g14) (.int x_x.1) (.int x_x.2) p_p H.size o10 eo10.symm) (cwV 1 hts gfX10_seed_1 rfl rfl rfl (by decide +kernel) ⟨(Nat.le_of_ble_eq_true rfl), (Nat.le_of_ble_eq_true rfl)⟩) (PV hPc (hK.sub (tys' := (tX6 kp ([]))) [0, 1, 2, 3, 4, 5, 6, 7, 8] rfl) hDc hN 0 rfl rfl) rfl rfl hl.1 rfl (lv_room (Nat.le_of_ble_eq_true rfl)) (zat zrX10_seed_0_ok 6 rfl) ⟨(Nat.le_of_ble_eq_true rfl), (Nat.le_of_ble_eq_true rfl)⟩)) (fun r10 _ H locs hw hP hD _ hS => ?_)
  obtain rfl := hw.symm
  obtain ⟨hP, hD⟩ := pd_mk (bX4 a3 un kn n_n ((a0, .inr (7, [.ref a2, g9, g10, .ref a3, g11, g12, g13, g14, .int x_x.1, .int x_x.2])) :: bX6 a2 up kp p_p [])) hP hD
  obtain ⟨o13, eo13⟩ : ∃ o, o = f_X10_refused o10 x_x := ⟨_, rfl⟩
  have h := nm_of h o13 eo13
  refine ck_i (wc := ([(a0, .inr (7, [.ref a2, g9, g10, .ref a3, g11, g12, g13, g14, .int x_x.1, .int x_x.2]))])) (wr := (bX4 a3 un kn n_n (bX6 a2 up kp p_p []))) hP hD hK hS hA [5] [0, 1, 2, 3, 4, 6, 7, 8, 9, 10, 11, 12, 13, 14, 15] rfl rfl (by decide) (by decide) (by decide) (fun hPc hDc => (va_runV (As := [.int o10]) (rest := []) ⟨hx, hb, hml, hown, hts⟩ (kfX10_refused l dC dI a0 o10 x_x (.ref a2) (g9) (g10) (.ref a3) (g11) (g12) (g13) (g14) H.size o13 eo13.symm) (cwV 1 hts gfX10_seed_2 rfl rfl rfl (by decide +kernel) ⟨(Nat.le_of_ble_eq_true rfl), (Nat.le_of_ble_eq_true rfl)⟩) (PV hPc (hK.sub (tys' := ([])) [] rfl) hDc hN 0 rfl rfl) rfl rfl hl.1 rfl (lv_room (Nat.le_of_ble_eq_true rfl)) (zat zrX10_seed_0_ok 7 rfl) ⟨(Nat.le_of_ble_eq_true rfl), (Nat.le_of_ble_eq_true rfl)⟩)) (fun r13 _ H locs hw hP hD _ hS => ?_)
  obtain ⟨hw, br13⟩ := hw
  obtain rfl := hw
  obtain ⟨hP, hD⟩ := pd_mk (bX4 a3 un kn n_n (bX6 a2 up kp p_p ([(a0, .inr (7, [.ref a2, g9, g10, .ref a3, g11, g12, g13, g14, .int o13.2.1, .int o13.2.2]))]))) hP hD
  refine lv_if_eq (tgt := 21) hx hb (zat zrX10_seed_0_ok 8 rfl) (by decide) (fun c16 => ?_) (fun c16 => ?_)
  · have h := (if_pos c16).symm.trans h
    refine lv_aload_n hx hb (zat zrX10_seed_0_ok 11 rfl) rfl (lv_at hl 0 rfl) ?_
    refine va_get (D := (dC, dI)) (ci := 7) (v := .ref a3) (C := RX10) (T := TX10) (N := 10) hx hb hts ifX10_seed_X10 hown hK hP 15 rfl rfl 3 (by decide) (hts (.fieldLink RX10 29 "HookPier" "now" "LHookPier$Now;") (List.mem_of_getElem? (i := 11) rfl)) (fun _ h9 => h9) rfl (zat zrX10_seed_0_ok 12 rfl) ?_
    refine lv_iload_n hx hb (zat zrX10_seed_0_ok 13 rfl) rfl (lv_at hl 1 rfl) ?_
    refine va_put (D := (dC, dI)) (ci := 3) (v := .int k1) (ty := .int) (C := RX4) (T := TX4) (N := 7) hx hb hts ifX10_seed_X4 tyX4 tyX4_ok nmX4 hown hK hP hD hS 0 rfl rfl 1 (by decide) (hts (.fieldLink RX10 351 "HookPier$Now" "seedNow" "I") (List.mem_of_getElem? (i := 12) rfl)) (fun _ h9 => h9) rfl (by decide +kernel) rfl rfl (Nat.le_of_ble_eq_true rfl) (zat zrX10_seed_0_ok 14 rfl) (fun H locs hP hD hS => ?_)
    obtain ⟨hP, hD⟩ := pd_mk (bX4 a3 un kn (n_n.1, k1, n_n.2.2) (bX6 a2 up kp p_p ([(a0, .inr (7, [.ref a2, g9, g10, .ref a3, g11, g12, g13, g14, .int o13.2.1, .int o13.2.2]))]))) hP hD
    refine lv_iconst (v := 1) hx hb (zat zrX10_seed_0_ok 15 rfl) (by decide) ?_
    obtain rfl := h
    obtain ⟨hP9, hD9⟩ := pd_sub ((a0, .inr (7, [.ref a2, g9, g10, .ref a3, g11, g12, g13, g14, .int o13.2.1, .int o13.2.2])) :: bX6 a2 up kp p_p (bX4 a3 un kn (n_n.1, k1, n_n.2.2) [])) [15, 5, 6, 7, 8, 9, 10, 11, 12, 13, 14, 0, 1, 2, 3, 4] hP hD (by decide) rfl
    have hK9 := hK.sub (tys' := []) [] rfl
    rw [hQQ]
    exact W.zret (v := (1 : Int32)) hx hb hr rfl (fun t ht hW => ⟨⟨(1 : Int32), (), rfl, ⟨rfl, (by decide)⟩, by rw [ht]; exact hP9, va_K.moved hW.alike hK9, hD9⟩, hS.F ht⟩) hS.2.2 (zat zrX10_seed_0_ok 16 rfl)
  · have h := (if_neg c16).symm.trans h
    refine lv_iconst (v := 0) hx hb (zat zrX10_seed_0_ok 9 rfl) (by decide) ?_
    obtain rfl := h
    obtain ⟨hP9, hD9⟩ := pd_sub ((a0, .inr (7, [.ref a2, g9, g10, .ref a3, g11, g12, g13, g14, .int o13.2.1, .int o13.2.2])) :: bX6 a2 up kp p_p (bX4 a3 un kn n_n [])) [15, 5, 6, 7, 8, 9, 10, 11, 12, 13, 14, 0, 1, 2, 3, 4] hP hD (by decide) rfl
    have hK9 := hK.sub (tys' := []) [] rfl
    rw [hQQ]
    exact W.zret (v := (0 : Int32)) hx hb hr rfl (fun t ht hW => ⟨⟨(0 : Int32), (), rfl, ⟨rfl, (by decide)⟩, by rw [ht]; exact hP9, va_K.moved hW.alike hK9, hD9⟩, hS.F ht⟩) hS.2.2 (zat zrX10_seed_0_ok 10 rfl)
noncomputable def zrX10_undo_0 : List ZR := zc 0 true (.aload_n 0) 1 (zc 1 true (.aload_n 0) 1 (zc 2 true (.getfield 36) 3 (zc 5 true (.getfield 354) 3 (zc 8 true (.ifCond .ne 8) 3 (zc 11 true (.bipush 6) 2 (zc 13 true (.goto 4) 3 (zc 16 true (.iconst 0) 1 (zc 17 true (.invokevirtual 79) 3 (zc 20 true (.ifCond .eq 5) 3 (zc 23 true (.iconst 0) 1 (zc 24 true (.ireturn) 1 (zc 25 true (.aload_n 0) 1 (zc 26 true (.getfield 36) 3 (zc 29 true (.aload_n 0) 1 (zc 30 true (.getfield 29) 3 (zc 33 true (.invokevirtual 357) 3 (zc 36 true (.iconst 1) 1 (zc 37 true (.ireturn) 1 ([])))))))))))))))))))
theorem zrX10_undo_0_ok : zck 0 ((zby cX10_undo).drop 0) zrX10_undo_0 = true := by decide +kernel
def vfX10_undo : List Cond := List.cons (.code yX10_undo cX10_undo 1 (some .boolean)) (apW [.fieldLink RX10 36 "HookPier" "history" "LHookPier$History;", .fieldLink RX10 354 "HookPier$History" "acts" "I", .methodLink RX10 79 yX10_refused, .instanceMethod yX10_refused, .selects RX10 yX10_refused yX10_refused, .initialized RX10, .fieldLink RX10 29 "HookPier" "now" "LHookPier$Now;", .methodLink RX10 357 yX2_takeBack, .instanceMethod yX2_takeBack, .selects RX2 yX2_takeBack yX2_takeBack, .initialized RX2] (apW wsX100 (apW wsX20 (apW vfX10_refused (vfX2_takeBack)))))
theorem ifX10_undo_X10 : ∀ w ∈ wsX100, w ∈ vfX10_undo := fun _ h => (List.mem_cons_of_mem _ (List.mem_append_right _ (List.mem_append_left _ h)))
theorem ifX10_undo_X2 : ∀ w ∈ wsX20, w ∈ vfX10_undo := fun _ h => (List.mem_cons_of_mem _ (List.mem_append_right _ (List.mem_append_right _ (List.mem_append_left _ h))))
theorem qfX10_undo : Good vfX10_undo := gd_cons (by decide +kernel) (gd_app (gd_dec (by decide +kernel) : Good [.fieldLink RX10 36 "HookPier" "history" "LHookPier$History;", .fieldLink RX10 354 "HookPier$History" "acts" "I", .methodLink RX10 79 yX10_refused, .instanceMethod yX10_refused, .selects RX10 yX10_refused yX10_refused, .initialized RX10, .fieldLink RX10 29 "HookPier" "now" "LHookPier$Now;", .methodLink RX10 357 yX2_takeBack, .instanceMethod yX2_takeBack, .selects RX2 yX2_takeBack yX2_takeBack, .initialized RX2]) (gd_app qsX10 (gd_app qsX2 (gd_app qfX10_refused qfX2_takeBack))))
theorem gfX10_undo_0 : GoodIn vfX10_undo (wsV RX10 79 RX10 yX10_refused vfX10_refused) := goodIn_app (goodIn_r [.methodLink RX10 79 yX10_refused, .instanceMethod yX10_refused, .selects RX10 yX10_refused yX10_refused, .initialized RX10] [3, 4, 5, 6] rfl (by decide +kernel)) (goodIn_m (fun _ h => (List.mem_cons_of_mem _ (List.mem_append_right _ (List.mem_append_right _ (List.mem_append_right _ (List.mem_append_left _ h)))))) qfX10_refused)
theorem gfX10_undo_1 : GoodIn vfX10_undo (wsV RX10 357 RX2 yX2_takeBack vfX2_takeBack) := goodIn_app (goodIn_r [.methodLink RX10 357 yX2_takeBack, .instanceMethod yX2_takeBack, .selects RX2 yX2_takeBack yX2_takeBack, .initialized RX2] [8, 9, 10, 11] rfl (by decide +kernel)) (goodIn_m (fun _ h => (List.mem_cons_of_mem _ (List.mem_append_right _ (List.mem_append_right _ (List.mem_append_right _ (List.mem_append_right _ h)))))) qfX2_takeBack)
set_option maxHeartbeats 2000000 in
set_option maxRecDepth 100000 in
theorem kfX10_undo (l : Launch) (dC : Nat → ClassId) (dI : Nat → Nat → Nat) (a0 : Nat) (a1 : Nat) (a2 : Nat) (a3 : Nat) (a4 : Nat) (un : Nat → Nat) (kn : Nat → ClassId) (un2 : Nat → Nat) (kn2 : Nat → ClassId) (x_x : TX10_x) (g10 : Value) (g11 : Value) (g12 : Value) (g13 : Value) (g14 : Value) (g15 : Value) (n_n : TX4_n) (n2_n : TX4_n) (h_h : TX2_h) (g19 : Value) (cB20 : ClassId) (kf21 : Nat → Option Nat) (sz : Nat) (hk : kf21 (((h_h.1 + (h_h.2.1 - (1 : Int32))) - (h_h.1 + (h_h.2.1 - (1 : Int32))) / (16 : Int32) * (16 : Int32))).toNatClampNeg = some a1) (out : (Int32 × TX10_x × TX4_n × TX2_h)) (h : f_X10_undo x_x n_n n2_n h_h = some out) : KCi l yX10_undo vfX10_undo ({ frames := 4, cells := 0, slots := 0, locals := 103 }) (dC, dI) [.ref a0] sz ((a0, .inr (7, [g10, g11, g12, .ref a2, .ref a3, g13, g14, g15, .int x_x.1, .int x_x.2])) :: bX4 a1 un kn n_n (bX4 a2 un2 kn2 n2_n ([(a3, .inr (2, [.ref a4, g19, .int h_h.1, .int h_h.2.1, .int h_h.2.2])), (a4, .inl (cB20, 16, .inr (.inr (.inr (.inr kf21)))))]))) (tX4 kn (tX4 kn2 ((cB20, .object RX4) :: []))) (fun (r : Int32) _ => r = out.1 ∧ (0 ≤ r.toInt ∧ r.toInt ≤ 1)) ((a0, .inr (7, [g10, g11, g12, .ref a2, .ref a3, g13, g14, g15, .int out.2.1.1, .int out.2.1.2])) :: bX4 a1 un kn n_n (bX4 a2 un2 kn2 out.2.2.1 ([(a3, .inr (2, [.ref a4, g19, .int out.2.2.2.1, .int out.2.2.2.2.1, .int out.2.2.2.2.2])), (a4, .inl (cB20, 16, .inr (.inr (.inr (.inr kf21)))))]))) 0 0 := by
  refine Met.ofW (cc := cX10_undo) (maxL := 1) (ret := (some .boolean)) (by decide) rfl ?_
  intro p e s m args below meth c s₁ B0 hml hv
  obtain ⟨rfl, hsz, hP, hK, hD0, hN⟩ := hv
  have hx := B0.exec
  have hb := B0.bytes
  have hr := B0.returns
  have hts := atoms_spec (ws := vfX10_undo) B0.pre
  have hown : s.vm.findClass RX10 = some m.cls := findClass_of_methodNamed B0.named
  have hlocks := B0.notSynchronized
  subst hsz
  have hD := hD0.self (sz := s.heap.size)
  generalize hAe : va_A ((a0, .inr (7, [g10, g11, g12, .ref a2, .ref a3, g13, g14, g15, .int x_x.1, .int x_x.2])) :: bX4 a1 un kn n_n (bX4 a2 un2 kn2 n2_n ([(a3, .inr (2, [.ref a4, g19, .int h_h.1, .int h_h.2.1, .int h_h.2.2])), (a4, .inl (cB20, 16, .inr (.inr (.inr (.inr kf21)))))]))) s.heap.size = A at hD ⊢
  have hA : ∀ q : Nat, s.heap.size ≤ q → A q := fun q h => by rw [← hAe]; exact Or.inr h
  have hS : va_S A s.heap s.heap [] := va_S.rf
  have hP : va_P (dC, dI) vwCl ((a0, .inr (7, [g10, g11, g12, .ref a2, .ref a3, g13, g14, g15, .int x_x.1, .int x_x.2])) :: bX4 a1 un kn n_n (bX4 a2 un2 kn2 n2_n ([(a3, .inr (2, [.ref a4, g19, .int h_h.1, .int h_h.2.1, .int h_h.2.2])), (a4, .inl (cB20, 16, .inr (.inr (.inr (.inr kf21)))))]))) s.heap := hP
  have hl := lv_entry ([.ref a0]) (n := 1) (Nat.le_of_ble_eq_true rfl)
  rw [lg_entry_eq]
  generalize (lg_sl ([.ref a0]) ++ List.replicate (1 - (lg_sl ([.ref a0])).length) Slot.unset).toArray = ls at hl ⊢
  have hl : lv_has ls 1 [(0, .ref a0)] := hl
  refine W_q (fun QQ hQQ => ?_)
  rw [f_X10_undo] at h
  refine lv_aload_n hx hb (zat zrX10_undo_0_ok 0 rfl) rfl (lv_at hl 0 rfl) ?_
  refine lv_aload_n hx hb (zat zrX10_undo_0_ok 1 rfl) rfl (lv_at hl 0 rfl) ?_
  refine va_get (D := (dC, dI)) (ci := 7) (v := .ref a3) (C := RX10) (T := TX10) (N := 10) hx hb hts ifX10_undo_X10 hown hK hP 0 rfl rfl 4 (by decide) (hts (.fieldLink RX10 36 "HookPier" "history" "LHookPier$History;") (List.mem_of_getElem? (i := 1) rfl)) (fun _ h9 => h9) rfl (zat zrX10_undo_0_ok 2 rfl) ?_
  refine va_get (D := (dC, dI)) (ci := 2) (v := .int h_h.2.1) (C := RX2) (T := TX2) (N := 5) hx hb hts ifX10_undo_X2 hown hK hP 11 rfl rfl 3 (by decide) (hts (.fieldLink RX10 354 "HookPier$History" "acts" "I") (List.mem_of_getElem? (i := 2) rfl)) (fun _ h9 => h9) rfl (zat zrX10_undo_0_ok 3 rfl) ?_
  have J17 : ∀ (v17_t1 : Int32) (H : Heap) (locs : List Loc) (ls : Array Slot), f_X10_undo_J17 x_x n_n n2_n h_h v17_t1 = some out → va_P (dC, dI) vwCl ((a0, .inr (7, [g10, g11, g12, .ref a2, .ref a3, g13, g14, g15, .int x_x.1, .int x_x.2])) :: bX4 a1 un kn n_n (bX4 a2 un2 kn2 n2_n ([(a3, .inr (2, [.ref a4, g19, .int h_h.1, .int h_h.2.1, .int h_h.2.2])), (a4, .inl (cB20, 16, .inr (.inr (.inr (.inr kf21)))))]))) H → va_D A ((a0, .inr (7, [g10, g11, g12, .ref a2, .ref a3, g13, g14, g15, .int x_x.1, .int x_x.2])) :: bX4 a1 un kn n_n (bX4 a2 un2 kn2 n2_n ([(a3, .inr (2, [.ref a4, g19, .int h_h.1, .int h_h.2.1, .int h_h.2.2])), (a4, .inl (cB20, 16, .inr (.inr (.inr (.inr kf21)))))]))) → va_S A s.heap H locs → lv_has ls 1 [(0, .ref a0)] → W p l e (headSpec vfX10_undo { frames := 4, cells := 0, slots := 0, locals := 103 }).room s m ([.ref a0]).toArray below meth c H locs 0 0 QQ (F0 m 17 ls [.int v17_t1, .ref a0]) := by
    intro v17_t1 H locs ls h  hP hD hS hl
    rw [f_X10_undo_J17] at h
    obtain ⟨o17, eo17⟩ : ∃ o, o = f_X10_refused v17_t1 x_x := ⟨_, rfl⟩
    have h := nm_of h o17 eo17
    refine ck_i (wc := ([(a0, .inr (7, [g10, g11, g12, .ref a2, .ref a3, g13, g14, g15, .int x_x.1, .int x_x.2]))])) (wr := (bX4 a1 un kn n_n (bX4 a2 un2 kn2 n2_n ([(a3, .inr (2, [.ref a4, g19, .int h_h.1, .int h_h.2.1, .int h_h.2.2])), (a4, .inl (cB20, 16, .inr (.inr (.inr (.inr kf21)))))])))) hP hD hK hS hA [0] [1, 2, 3, 4, 5, 6, 7, 8, 9, 10, 11, 12] rfl rfl (by decide) (by decide) (by decide) (fun hPc hDc => (va_runV (As := [.int v17_t1]) (rest := []) ⟨hx, hb, hml, hown, hts⟩ (kfX10_refused l dC dI a0 v17_t1 x_x (g10) (g11) (g12) (.ref a2) (.ref a3) (g13) (g14) (g15) H.size o17 eo17.symm) (cwV 1 hts gfX10_undo_0 rfl rfl rfl (by decide +kernel) ⟨(Nat.le_of_ble_eq_true rfl), (Nat.le_of_ble_eq_true rfl)⟩) (PV hPc (hK.sub (tys' := ([])) [] rfl) hDc hN 0 rfl rfl) rfl rfl hl.1 rfl (lv_room (Nat.le_of_ble_eq_true rfl)) (zat zrX10_undo_0_ok 8 rfl) ⟨(Nat.le_of_ble_eq_true rfl), (Nat.le_of_ble_eq_true rfl)⟩)) (fun r17 _ H locs hw hP hD _ hS => ?_)
    obtain ⟨hw, br17⟩ := hw
    obtain rfl := hw
    obtain ⟨hP, hD⟩ := pd_mk (bX4 a1 un kn n_n (bX4 a2 un2 kn2 n2_n ([(a3, .inr (2, [.ref a4, g19, .int h_h.1, .int h_h.2.1, .int h_h.2.2])), (a4, .inl (cB20, 16, .inr (.inr (.inr (.inr kf21))))), (a0, .inr (7, [g10, g11, g12, .ref a2, .ref a3, g13, g14, g15, .int o17.2.1, .int o17.2.2]))]))) hP hD
    refine lv_if_eq (tgt := 25) hx hb (zat zrX10_undo_0_ok 9 rfl) (by decide) (fun c20 => ?_) (fun c20 => ?_)
    · have h := (if_pos c20).symm.trans h
      refine lv_aload_n hx hb (zat zrX10_undo_0_ok 12 rfl) rfl (lv_at hl 0 rfl) ?_
      refine va_get (D := (dC, dI)) (ci := 7) (v := .ref a3) (C := RX10) (T := TX10) (N := 10) hx hb hts ifX10_undo_X10 hown hK hP 12 rfl rfl 4 (by decide) (hts (.fieldLink RX10 36 "HookPier" "history" "LHookPier$History;") (List.mem_of_getElem? (i := 1) rfl)) (fun _ h9 => h9) rfl (zat zrX10_undo_0_ok 13 rfl) ?_
      refine lv_aload_n hx hb (zat zrX10_undo_0_ok 14 rfl) rfl (lv_at hl 0 rfl) ?_
      refine va_get (D := (dC, dI)) (ci := 7) (v := .ref a2) (C := RX10) (T := TX10) (N := 10) hx hb hts ifX10_undo_X10 hown hK hP 12 rfl rfl 3 (by decide) (hts (.fieldLink RX10 29 "HookPier" "now" "LHookPier$Now;") (List.mem_of_getElem? (i := 7) rfl)) (fun _ h9 => h9) rfl (zat zrX10_undo_0_ok 15 rfl) ?_
      obtain ⟨o33, eo33, h⟩ := bd_of h
      refine ck_v (wc := ((a3, .inr (2, [.ref a4, g19, .int h_h.1, .int h_h.2.1, .int h_h.2.2])) :: bX4 a2 un2 kn2 n2_n (bX4 a1 un kn n_n ([(a4, .inl (cB20, 16, .inr (.inr (.inr (.inr kf21)))))])))) (wr := ([(a0, .inr (7, [g10, g11, g12, .ref a2, .ref a3, g13, g14, g15, .int o17.2.1, .int o17.2.2]))])) hP hD hK hS hA [10, 5, 6, 7, 8, 9, 0, 1, 2, 3, 4, 11] [12] rfl rfl (by decide) (by decide) (by decide) (fun hPc hDc => (va_runV (As := [.ref a2]) (rest := []) ⟨hx, hb, hml, hown, hts⟩ (kfX2_takeBack l dC dI a3 a2 a1 a4 un2 kn2 un kn h_h (g19) n2_n n_n cB20 kf21 H.size hk o33 eo33) (cwV 1 hts gfX10_undo_1 rfl rfl rfl (by decide +kernel) ⟨(Nat.le_of_ble_eq_true rfl), (Nat.le_of_ble_eq_true rfl)⟩) (PV hPc (hK.sub (tys' := (tX4 kn2 (tX4 kn ((cB20, .object RX4) :: [])))) [4, 5, 6, 7, 0, 1, 2, 3, 8] rfl) hDc hN 0 rfl rfl) rfl rfl hl.1 rfl (lv_room (Nat.le_of_ble_eq_true rfl)) (zat zrX10_undo_0_ok 16 rfl) ⟨(Nat.le_of_ble_eq_true rfl), (Nat.le_of_ble_eq_true rfl)⟩)) (fun _ H locs hw hP hD _ hS => ?_)
      obtain ⟨hP, hD⟩ := pd_mk ((a0, .inr (7, [g10, g11, g12, .ref a2, .ref a3, g13, g14, g15, .int o17.2.1, .int o17.2.2])) :: (a3, .inr (2, [.ref a4, g19, .int o33.1.1, .int o33.1.2.1, .int o33.1.2.2])) :: bX4 a2 un2 kn2 o33.2 (bX4 a1 un kn n_n ([(a4, .inl (cB20, 16, .inr (.inr (.inr (.inr kf21)))))]))) hP hD
      refine lv_iconst (v := 1) hx hb (zat zrX10_undo_0_ok 17 rfl) (by decide) ?_
      obtain rfl := Option.some.inj h
      obtain ⟨hP9, hD9⟩ := pd_sub ((a0, .inr (7, [g10, g11, g12, .ref a2, .ref a3, g13, g14, g15, .int o17.2.1, .int o17.2.2])) :: bX4 a1 un kn n_n (bX4 a2 un2 kn2 o33.2 ([(a3, .inr (2, [.ref a4, g19, .int o33.1.1, .int o33.1.2.1, .int o33.1.2.2])), (a4, .inl (cB20, 16, .inr (.inr (.inr (.inr kf21)))))]))) [0, 7, 8, 9, 10, 11, 2, 3, 4, 5, 6, 1, 12] hP hD (by decide) rfl
      have hK9 := hK.sub (tys' := []) [] rfl
      rw [hQQ]
      exact W.zret (v := (1 : Int32)) hx hb hr rfl (fun t ht hW => ⟨⟨(1 : Int32), (), rfl, ⟨rfl, (by decide)⟩, by rw [ht]; exact hP9, va_K.moved hW.alike hK9, hD9⟩, hS.F ht⟩) hS.2.2 (zat zrX10_undo_0_ok 18 rfl)
    · have h := (if_neg c20).symm.trans h
      refine lv_iconst (v := 0) hx hb (zat zrX10_undo_0_ok 10 rfl) (by decide) ?_
      obtain rfl := Option.some.inj h
      obtain ⟨hP9, hD9⟩ := pd_sub ((a0, .inr (7, [g10, g11, g12, .ref a2, .ref a3, g13, g14, g15, .int o17.2.1, .int o17.2.2])) :: bX4 a1 un kn n_n (bX4 a2 un2 kn2 n2_n ([(a3, .inr (2, [.ref a4, g19, .int h_h.1, .int h_h.2.1, .int h_h.2.2])), (a4, .inl (cB20, 16, .inr (.inr (.inr (.inr kf21)))))]))) [12, 0, 1, 2, 3, 4, 5, 6, 7, 8, 9, 10, 11] hP hD (by decide) rfl
      have hK9 := hK.sub (tys' := []) [] rfl
      rw [hQQ]
      exact W.zret (v := (0 : Int32)) hx hb hr rfl (fun t ht hW => ⟨⟨(0 : Int32), (), rfl, ⟨rfl, (by decide)⟩, by rw [ht]; exact hP9, va_K.moved hW.alike hK9, hD9⟩, hS.F ht⟩) hS.2.2 (zat zrX10_undo_0_ok 11 rfl)
  refine lv_if_ne (tgt := 16) hx hb (zat zrX10_undo_0_ok 4 rfl) (by decide) (fun c8 => ?_) (fun c8 => ?_)
  · have h := (if_neg c8).symm.trans h
    refine lv_iconst (v := 0) hx hb (zat zrX10_undo_0_ok 7 rfl) (by decide) ?_
    exact J17 (0 : Int32) s.heap _ ls h  hP hD hS (lv_sub hl [0] rfl)
  · have h := (if_pos c8).symm.trans h
    refine lv_bipush (v := 6) hx hb (zat zrX10_undo_0_ok 5 rfl) (by decide) ?_
    refine lv_goto (tgt := 17) hx hb (zat zrX10_undo_0_ok 6 rfl) (by decide) ?_
    exact J17 (6 : Int32) s.heap _ ls h  hP hD hS (lv_sub hl [0] rfl)
noncomputable def zrX10_mark_0 : List ZR := zc 0 true (.aload_n 0) 1 (zc 1 true (.invokevirtual 216) 3 (zc 4 true (.istore_n 1) 1 (zc 5 true (.aload_n 0) 1 (zc 6 true (.iload_n 1) 1 (zc 7 true (.ifCond .ne 18) 3 (zc 10 true (.aload_n 0) 1 (zc 11 true (.getfield 36) 3 (zc 14 true (.getfield 360) 3 (zc 17 true (.iconst 3) 1 (zc 18 true (.if_icmp .lt 7) 3 (zc 21 true (.iconst 3) 1 (zc 22 true (.goto 4) 3 (zc 25 true (.iload_n 1) 1 (zc 26 true (.invokevirtual 79) 3 (zc 29 true (.ifCond .eq 5) 3 (zc 32 true (.iconst (-1)) 1 (zc 33 true (.ireturn) 1 (zc 34 true (.aload_n 0) 1 (zc 35 true (.getfield 36) 3 (zc 38 true (.aload_n 0) 1 (zc 39 true (.getfield 29) 3 (zc 42 true (.invokevirtual 363) 3 (zc 45 true (.ireturn) 1 ([]))))))))))))))))))))))))
theorem zrX10_mark_0_ok : zck 0 ((zby cX10_mark).drop 0) zrX10_mark_0 = true := by decide +kernel
def vfX10_mark : List Cond := List.cons (.code yX10_mark cX10_mark 2 (some .int)) (apW [.methodLink RX10 216 yX10_pierTrouble, .instanceMethod yX10_pierTrouble, .selects RX10 yX10_pierTrouble yX10_pierTrouble, .initialized RX10, .methodLink RX10 79 yX10_refused, .instanceMethod yX10_refused, .selects RX10 yX10_refused yX10_refused, .fieldLink RX10 36 "HookPier" "history" "LHookPier$History;", .fieldLink RX10 29 "HookPier" "now" "LHookPier$Now;", .methodLink RX10 363 yX2_setMark, .instanceMethod yX2_setMark, .selects RX2 yX2_setMark yX2_setMark, .initialized RX2, .fieldLink RX10 360 "HookPier$History" "marks" "I"] (apW wsX100 (apW wsX20 (apW vfX10_pierTrouble (apW vfX10_refused (vfX2_setMark))))))
theorem ifX10_mark_X10 : ∀ w ∈ wsX100, w ∈ vfX10_mark := fun _ h => (List.mem_cons_of_mem _ (List.mem_append_right _ (List.mem_append_left _ h)))
theorem ifX10_mark_X2 : ∀ w ∈ wsX20, w ∈ vfX10_mark := fun _ h => (List.mem_cons_of_mem _ (List.mem_append_right _ (List.mem_append_right _ (List.mem_append_left _ h))))
theorem qfX10_mark : Good vfX10_mark := gd_cons (by decide +kernel) (gd_app (gd_dec (by decide +kernel) : Good [.methodLink RX10 216 yX10_pierTrouble, .instanceMethod yX10_pierTrouble, .selects RX10 yX10_pierTrouble yX10_pierTrouble, .initialized RX10, .methodLink RX10 79 yX10_refused, .instanceMethod yX10_refused, .selects RX10 yX10_refused yX10_refused, .fieldLink RX10 36 "HookPier" "history" "LHookPier$History;", .fieldLink RX10 29 "HookPier" "now" "LHookPier$Now;", .methodLink RX10 363 yX2_setMark, .instanceMethod yX2_setMark, .selects RX2 yX2_setMark yX2_setMark, .initialized RX2, .fieldLink RX10 360 "HookPier$History" "marks" "I"]) (gd_app qsX10 (gd_app qsX2 (gd_app qfX10_pierTrouble (gd_app qfX10_refused qfX2_setMark)))))
theorem gfX10_mark_0 : GoodIn vfX10_mark (wsV RX10 216 RX10 yX10_pierTrouble vfX10_pierTrouble) := goodIn_app (goodIn_r [.methodLink RX10 216 yX10_pierTrouble, .instanceMethod yX10_pierTrouble, .selects RX10 yX10_pierTrouble yX10_pierTrouble, .initialized RX10] [1, 2, 3, 4] rfl (by decide +kernel)) (goodIn_m (fun _ h => (List.mem_cons_of_mem _ (List.mem_append_right _ (List.mem_append_right _ (List.mem_append_right _ (List.mem_append_left _ h)))))) qfX10_pierTrouble)
theorem gfX10_mark_1 : GoodIn vfX10_mark (wsV RX10 79 RX10 yX10_refused vfX10_refused) := goodIn_app (goodIn_r [.methodLink RX10 79 yX10_refused, .instanceMethod yX10_refused, .selects RX10 yX10_refused yX10_refused, .initialized RX10] [5, 6, 7, 4] rfl (by decide +kernel)) (goodIn_m (fun _ h => (List.mem_cons_of_mem _ (List.mem_append_right _ (List.mem_append_right _ (List.mem_append_right _ (List.mem_append_right _ (List.mem_append_left _ h))))))) qfX10_refused)
theorem gfX10_mark_2 : GoodIn vfX10_mark (wsV RX10 363 RX2 yX2_setMark vfX2_setMark) := goodIn_app (goodIn_r [.methodLink RX10 363 yX2_setMark, .instanceMethod yX2_setMark, .selects RX2 yX2_setMark yX2_setMark, .initialized RX2] [10, 11, 12, 13] rfl (by decide +kernel)) (goodIn_m (fun _ h => (List.mem_cons_of_mem _ (List.mem_append_right _ (List.mem_append_right _ (List.mem_append_right _ (List.mem_append_right _ (List.mem_append_right _ h))))))) qfX2_setMark)
set_option maxHeartbeats 2000000 in
set_option maxRecDepth 100000 in
theorem kfX10_mark (l : Launch) (dC : Nat → ClassId) (dI : Nat → Nat → Nat) (a0 : Nat) (a1 : Nat) (a2 : Nat) (a3 : Nat) (a4 : Nat) (a5 : Nat) (un : Nat → Nat) (kn : Nat → ClassId) (up : Nat → Nat) (kp : Nat → ClassId) (un2 : Nat → Nat) (kn2 : Nat → ClassId) (x_x : TX10_x) (g13 : Value) (g14 : Value) (g15 : Value) (g16 : Value) (g17 : Value) (n_n : TX4_n) (p_p : TX6_p) (n2_n : TX4_n) (h_h : TX2_h) (g22 : Value) (cB23 : ClassId) (kf24 : Nat → Option Nat) (sz : Nat) (hk : kf24 (h_h.2.2).toNatClampNeg = some a1) (out : (Int32 × TX10_x × TX4_n × TX2_h)) (h : f_X10_mark x_x n_n p_p n2_n h_h = some out) : KCi l yX10_mark vfX10_mark ({ frames := 4, cells := 0, slots := 0, locals := 103 }) (dC, dI) [.ref a0] sz ((a0, .inr (7, [.ref a2, g13, g14, .ref a3, .ref a4, g15, g16, g17, .int x_x.1, .int x_x.2])) :: bX4 a1 un kn n_n (bX6 a2 up kp p_p (bX4 a3 un2 kn2 n2_n ([(a4, .inr (2, [g22, .ref a5, .int h_h.1, .int h_h.2.1, .int h_h.2.2])), (a5, .inl (cB23, 3, .inr (.inr (.inr (.inr kf24)))))])))) (tX4 kn (tX6 kp (tX4 kn2 ((cB23, .object RX4) :: [])))) (fun (r : Int32) _ => r = out.1) ((a0, .inr (7, [.ref a2, g13, g14, .ref a3, .ref a4, g15, g16, g17, .int out.2.1.1, .int out.2.1.2])) :: bX4 a1 un kn out.2.2.1 (bX6 a2 up kp p_p (bX4 a3 un2 kn2 n2_n ([(a4, .inr (2, [g22, .ref a5, .int out.2.2.2.1, .int out.2.2.2.2.1, .int out.2.2.2.2.2])), (a5, .inl (cB23, 3, .inr (.inr (.inr (.inr kf24)))))])))) 0 0 := by
  refine Met.ofW (cc := cX10_mark) (maxL := 2) (ret := (some .int)) (by decide) rfl ?_
  intro p e s m args below meth c s₁ B0 hml hv
  obtain ⟨rfl, hsz, hP, hK, hD0, hN⟩ := hv
  have hx := B0.exec
  have hb := B0.bytes
  have hr := B0.returns
  have hts := atoms_spec (ws := vfX10_mark) B0.pre
  have hown : s.vm.findClass RX10 = some m.cls := findClass_of_methodNamed B0.named
  have hlocks := B0.notSynchronized
  subst hsz
  have hD := hD0.self (sz := s.heap.size)
  generalize hAe : va_A ((a0, .inr (7, [.ref a2, g13, g14, .ref a3, .ref a4, g15, g16, g17, .int x_x.1, .int x_x.2])) :: bX4 a1 un kn n_n (bX6 a2 up kp p_p (bX4 a3 un2 kn2 n2_n ([(a4, .inr (2, [g22, .ref a5, .int h_h.1, .int h_h.2.1, .int h_h.2.2])), (a5, .inl (cB23, 3, .inr (.inr (.inr (.inr kf24)))))])))) s.heap.size = A at hD ⊢
  have hA : ∀ q : Nat, s.heap.size ≤ q → A q := fun q h => by rw [← hAe]; exact Or.inr h
  have hS : va_S A s.heap s.heap [] := va_S.rf
  have hP : va_P (dC, dI) vwCl ((a0, .inr (7, [.ref a2, g13, g14, .ref a3, .ref a4, g15, g16, g17, .int x_x.1, .int x_x.2])) :: bX4 a1 un kn n_n (bX6 a2 up kp p_p (bX4 a3 un2 kn2 n2_n ([(a4, .inr (2, [g22, .ref a5, .int h_h.1, .int h_h.2.1, .int h_h.2.2])), (a5, .inl (cB23, 3, .inr (.inr (.inr (.inr kf24)))))])))) s.heap := hP
  have hl := lv_entry ([.ref a0]) (n := 2) (Nat.le_of_ble_eq_true rfl)
  rw [lg_entry_eq]
  generalize (lg_sl ([.ref a0]) ++ List.replicate (2 - (lg_sl ([.ref a0])).length) Slot.unset).toArray = ls at hl ⊢
  have hl : lv_has ls 2 [(0, .ref a0)] := hl
  refine W_q (fun QQ hQQ => ?_)
  rw [f_X10_mark] at h
  refine lv_aload_n hx hb (zat zrX10_mark_0_ok 0 rfl) rfl (lv_at hl 0 rfl) ?_
  obtain ⟨o1, eo1⟩ : ∃ o, o = f_X10_pierTrouble p_p := ⟨_, rfl⟩
  have h := nm_of h o1 eo1
  refine ck_i (wc := ((a0, .inr (7, [.ref a2, g13, g14, .ref a3, .ref a4, g15, g16, g17, .int x_x.1, .int x_x.2])) :: bX6 a2 up kp p_p [])) (wr := (bX4 a1 un kn n_n (bX4 a3 un2 kn2 n2_n ([(a4, .inr (2, [g22, .ref a5, .int h_h.1, .int h_h.2.1, .int h_h.2.2])), (a5, .inl (cB23, 3, .inr (.inr (.inr (.inr kf24)))))])))) hP hD hK hS hA [0, 6, 7, 8, 9, 10, 11, 12, 13, 14, 15] [1, 2, 3, 4, 5, 16, 17, 18, 19, 20, 21, 22] rfl rfl (by decide) (by decide) (by decide) (fun hPc hDc => (va_runV (As := []) (rest := []) ⟨hx, hb, hml, hown, hts⟩ (kfX10_pierTrouble l dC dI a0 a2 up kp (g13) (g14) (.ref a3) (.ref a4) (g15) (g16) (g17) (.int x_x.1) (.int x_x.2) p_p s.heap.size o1 eo1.symm) (cwV 0 hts gfX10_mark_0 rfl rfl rfl (by decide +kernel) ⟨(Nat.le_of_ble_eq_true rfl), (Nat.le_of_ble_eq_true rfl)⟩) (PV hPc (hK.sub (tys' := (tX6 kp ([]))) [4, 5, 6, 7, 8, 9, 10, 11, 12] rfl) hDc hN 0 rfl rfl) rfl rfl hl.1 rfl (lv_room (Nat.le_of_ble_eq_true rfl)) (zat zrX10_mark_0_ok 1 rfl) ⟨(Nat.le_of_ble_eq_true rfl), (Nat.le_of_ble_eq_true rfl)⟩)) (fun r1 _ H locs hw hP hD _ hS => ?_)
  obtain rfl := hw.symm
  obtain ⟨hP, hD⟩ := pd_mk (bX4 a1 un kn n_n (bX4 a3 un2 kn2 n2_n ((a4, .inr (2, [g22, .ref a5, .int h_h.1, .int h_h.2.1, .int h_h.2.2])) :: (a5, .inl (cB23, 3, .inr (.inr (.inr (.inr kf24))))) :: (a0, .inr (7, [.ref a2, g13, g14, .ref a3, .ref a4, g15, g16, g17, .int x_x.1, .int x_x.2])) :: bX6 a2 up kp p_p []))) hP hD
  refine lv_istore_n (lv' := [(1, .int o1), (0, .ref a0)]) hx hb (zat zrX10_mark_0_ok 2 rfl) rfl hl (by decide) rfl (fun ls hl => ?_)
  refine lv_aload_n hx hb (zat zrX10_mark_0_ok 3 rfl) rfl (lv_at hl 1 rfl) ?_
  refine lv_iload_n hx hb (zat zrX10_mark_0_ok 4 rfl) rfl (lv_at hl 0 rfl) ?_
  have J26 : ∀ (v26_t1 : Int32) (H : Heap) (locs : List Loc) (ls : Array Slot), f_X10_mark_J26 x_x n_n n2_n h_h v26_t1 = some out → va_P (dC, dI) vwCl (bX4 a1 un kn n_n (bX4 a3 un2 kn2 n2_n ((a4, .inr (2, [g22, .ref a5, .int h_h.1, .int h_h.2.1, .int h_h.2.2])) :: (a5, .inl (cB23, 3, .inr (.inr (.inr (.inr kf24))))) :: (a0, .inr (7, [.ref a2, g13, g14, .ref a3, .ref a4, g15, g16, g17, .int x_x.1, .int x_x.2])) :: bX6 a2 up kp p_p []))) H → va_D A (bX4 a1 un kn n_n (bX4 a3 un2 kn2 n2_n ((a4, .inr (2, [g22, .ref a5, .int h_h.1, .int h_h.2.1, .int h_h.2.2])) :: (a5, .inl (cB23, 3, .inr (.inr (.inr (.inr kf24))))) :: (a0, .inr (7, [.ref a2, g13, g14, .ref a3, .ref a4, g15, g16, g17, .int x_x.1, .int x_x.2])) :: bX6 a2 up kp p_p []))) → va_S A s.heap H locs → lv_has ls 2 [(0, .ref a0)] → W p l e (headSpec vfX10_mark { frames := 4, cells := 0, slots := 0, locals := 103 }).room s m ([.ref a0]).toArray below meth c H locs 0 0 QQ (F0 m 26 ls [.int v26_t1, .ref a0]) := by
    intro v26_t1 H locs ls h  hP hD hS hl
    rw [f_X10_mark_J26] at h
    obtain ⟨o26, eo26⟩ : ∃ o, o = f_X10_refused v26_t1 x_x := ⟨_, rfl⟩
    have h := nm_of h o26 eo26
    refine ck_i (wc := ([(a0, .inr (7, [.ref a2, g13, g14, .ref a3, .ref a4, g15, g16, g17, .int x_x.1, .int x_x.2]))])) (wr := (bX4 a1 un kn n_n (bX4 a3 un2 kn2 n2_n ((a4, .inr (2, [g22, .ref a5, .int h_h.1, .int h_h.2.1, .int h_h.2.2])) :: (a5, .inl (cB23, 3, .inr (.inr (.inr (.inr kf24))))) :: bX6 a2 up kp p_p [])))) hP hD hK hS hA [12] [0, 1, 2, 3, 4, 5, 6, 7, 8, 9, 10, 11, 13, 14, 15, 16, 17, 18, 19, 20, 21, 22] rfl rfl (by decide) (by decide) (by decide) (fun hPc hDc => (va_runV (As := [.int v26_t1]) (rest := []) ⟨hx, hb, hml, hown, hts⟩ (kfX10_refused l dC dI a0 v26_t1 x_x (.ref a2) (g13) (g14) (.ref a3) (.ref a4) (g15) (g16) (g17) H.size o26 eo26.symm) (cwV 1 hts gfX10_mark_1 rfl rfl rfl (by decide +kernel) ⟨(Nat.le_of_ble_eq_true rfl), (Nat.le_of_ble_eq_true rfl)⟩) (PV hPc (hK.sub (tys' := ([])) [] rfl) hDc hN 0 rfl rfl) rfl rfl hl.1 rfl (lv_room (Nat.le_of_ble_eq_true rfl)) (zat zrX10_mark_0_ok 14 rfl) ⟨(Nat.le_of_ble_eq_true rfl), (Nat.le_of_ble_eq_true rfl)⟩)) (fun r26 _ H locs hw hP hD _ hS => ?_)
    obtain ⟨hw, br26⟩ := hw
    obtain rfl := hw
    obtain ⟨hP, hD⟩ := pd_mk (bX4 a1 un kn n_n (bX4 a3 un2 kn2 n2_n ((a4, .inr (2, [g22, .ref a5, .int h_h.1, .int h_h.2.1, .int h_h.2.2])) :: (a5, .inl (cB23, 3, .inr (.inr (.inr (.inr kf24))))) :: bX6 a2 up kp p_p ([(a0, .inr (7, [.ref a2, g13, g14, .ref a3, .ref a4, g15, g16, g17, .int o26.2.1, .int o26.2.2]))])))) hP hD
    refine lv_if_eq (tgt := 34) hx hb (zat zrX10_mark_0_ok 15 rfl) (by decide) (fun c29 => ?_) (fun c29 => ?_)
    · have h := (if_pos c29).symm.trans h
      refine lv_aload_n hx hb (zat zrX10_mark_0_ok 18 rfl) rfl (lv_at hl 0 rfl) ?_
      refine va_get (D := (dC, dI)) (ci := 7) (v := .ref a4) (C := RX10) (T := TX10) (N := 10) hx hb hts ifX10_mark_X10 hown hK hP 22 rfl rfl 4 (by decide) (hts (.fieldLink RX10 36 "HookPier" "history" "LHookPier$History;") (List.mem_of_getElem? (i := 8) rfl)) (fun _ h9 => h9) rfl (zat zrX10_mark_0_ok 19 rfl) ?_
      refine lv_aload_n hx hb (zat zrX10_mark_0_ok 20 rfl) rfl (lv_at hl 0 rfl) ?_
      refine va_get (D := (dC, dI)) (ci := 7) (v := .ref a3) (C := RX10) (T := TX10) (N := 10) hx hb hts ifX10_mark_X10 hown hK hP 22 rfl rfl 3 (by decide) (hts (.fieldLink RX10 29 "HookPier" "now" "LHookPier$Now;") (List.mem_of_getElem? (i := 9) rfl)) (fun _ h9 => h9) rfl (zat zrX10_mark_0_ok 21 rfl) ?_
      obtain ⟨o42, eo42, h⟩ := bd_of h
      refine ck_i (wc := ((a4, .inr (2, [g22, .ref a5, .int h_h.1, .int h_h.2.1, .int h_h.2.2])) :: bX4 a3 un2 kn2 n2_n (bX4 a1 un kn n_n ([(a5, .inl (cB23, 3, .inr (.inr (.inr (.inr kf24)))))])))) (wr := (bX6 a2 up kp p_p ([(a0, .inr (7, [.ref a2, g13, g14, .ref a3, .ref a4, g15, g16, g17, .int o26.2.1, .int o26.2.2]))]))) hP hD hK hS hA [10, 5, 6, 7, 8, 9, 0, 1, 2, 3, 4, 11] [12, 13, 14, 15, 16, 17, 18, 19, 20, 21, 22] rfl rfl (by decide) (by decide) (by decide) (fun hPc hDc => (va_runV (As := [.ref a3]) (rest := []) ⟨hx, hb, hml, hown, hts⟩ (kfX2_setMark l dC dI a4 a3 a1 a5 un2 kn2 un kn h_h (g22) n2_n n_n cB23 kf24 H.size hk o42 eo42) (cwV 1 hts gfX10_mark_2 rfl rfl rfl (by decide +kernel) ⟨(Nat.le_of_ble_eq_true rfl), (Nat.le_of_ble_eq_true rfl)⟩) (PV hPc (hK.sub (tys' := (tX4 kn2 (tX4 kn ((cB23, .object RX4) :: [])))) [13, 14, 15, 16, 0, 1, 2, 3, 17] rfl) hDc hN 0 rfl rfl) rfl rfl hl.1 rfl (lv_room (Nat.le_of_ble_eq_true rfl)) (zat zrX10_mark_0_ok 22 rfl) ⟨(Nat.le_of_ble_eq_true rfl), (Nat.le_of_ble_eq_true rfl)⟩)) (fun r42 _ H locs hw hP hD _ hS => ?_)
      obtain rfl := hw
      obtain ⟨hP, hD⟩ := pd_mk (bX6 a2 up kp p_p ((a0, .inr (7, [.ref a2, g13, g14, .ref a3, .ref a4, g15, g16, g17, .int o26.2.1, .int o26.2.2])) :: (a4, .inr (2, [g22, .ref a5, .int o42.2.1.1, .int o42.2.1.2.1, .int o42.2.1.2.2])) :: bX4 a3 un2 kn2 n2_n (bX4 a1 un kn o42.2.2 ([(a5, .inl (cB23, 3, .inr (.inr (.inr (.inr kf24)))))])))) hP hD
      obtain rfl := Option.some.inj h
      obtain ⟨hP9, hD9⟩ := pd_sub ((a0, .inr (7, [.ref a2, g13, g14, .ref a3, .ref a4, g15, g16, g17, .int o26.2.1, .int o26.2.2])) :: bX4 a1 un kn o42.2.2 (bX6 a2 up kp p_p (bX4 a3 un2 kn2 n2_n ([(a4, .inr (2, [g22, .ref a5, .int o42.2.1.1, .int o42.2.1.2.1, .int o42.2.1.2.2])), (a5, .inl (cB23, 3, .inr (.inr (.inr (.inr kf24)))))])))) [10, 17, 18, 19, 20, 21, 0, 1, 2, 3, 4, 5, 6, 7, 8, 9, 12, 13, 14, 15, 16, 11, 22] hP hD (by decide) rfl
      have hK9 := hK.sub (tys' := []) [] rfl
      rw [hQQ]
      exact W.iret (v := o42.1) hx hb hr (fun t ht hW => ⟨⟨o42.1, (), rfl, rfl, by rw [ht]; exact hP9, va_K.moved hW.alike hK9, hD9⟩, hS.F ht⟩) hS.2.2 (zat zrX10_mark_0_ok 23 rfl)
    · have h := (if_neg c29).symm.trans h
      refine lv_iconst (v := (-1)) hx hb (zat zrX10_mark_0_ok 16 rfl) (by decide) ?_
      obtain rfl := Option.some.inj h
      obtain ⟨hP9, hD9⟩ := pd_sub ((a0, .inr (7, [.ref a2, g13, g14, .ref a3, .ref a4, g15, g16, g17, .int o26.2.1, .int o26.2.2])) :: bX4 a1 un kn n_n (bX6 a2 up kp p_p (bX4 a3 un2 kn2 n2_n ([(a4, .inr (2, [g22, .ref a5, .int h_h.1, .int h_h.2.1, .int h_h.2.2])), (a5, .inl (cB23, 3, .inr (.inr (.inr (.inr kf24)))))])))) [22, 0, 1, 2, 3, 4, 12, 13, 14, 15, 16, 17, 18, 19, 20, 21, 5, 6, 7, 8, 9, 10, 11] hP hD (by decide) rfl
      have hK9 := hK.sub (tys' := []) [] rfl
      rw [hQQ]
      exact W.iret (v := (-1 : Int32)) hx hb hr (fun t ht hW => ⟨⟨(-1 : Int32), (), rfl, rfl, by rw [ht]; exact hP9, va_K.moved hW.alike hK9, hD9⟩, hS.F ht⟩) hS.2.2 (zat zrX10_mark_0_ok 17 rfl)
  have J25 : ∀ (H : Heap) (locs : List Loc) (ls : Array Slot), f_X10_mark_J25 x_x n_n n2_n h_h o1 = some out → va_P (dC, dI) vwCl (bX4 a1 un kn n_n (bX4 a3 un2 kn2 n2_n ((a4, .inr (2, [g22, .ref a5, .int h_h.1, .int h_h.2.1, .int h_h.2.2])) :: (a5, .inl (cB23, 3, .inr (.inr (.inr (.inr kf24))))) :: (a0, .inr (7, [.ref a2, g13, g14, .ref a3, .ref a4, g15, g16, g17, .int x_x.1, .int x_x.2])) :: bX6 a2 up kp p_p []))) H → va_D A (bX4 a1 un kn n_n (bX4 a3 un2 kn2 n2_n ((a4, .inr (2, [g22, .ref a5, .int h_h.1, .int h_h.2.1, .int h_h.2.2])) :: (a5, .inl (cB23, 3, .inr (.inr (.inr (.inr kf24))))) :: (a0, .inr (7, [.ref a2, g13, g14, .ref a3, .ref a4, g15, g16, g17, .int x_x.1, .int x_x.2])) :: bX6 a2 up kp p_p []))) → va_S A s.heap H locs → lv_has ls 2 [(1, .int o1), (0, .ref a0)] → W p l e (headSpec vfX10_mark { frames := 4, cells := 0, slots := 0, locals := 103 }).room s m ([.ref a0]).toArray below meth c H locs 0 0 QQ (F0 m 25 ls [.ref a0]) := by
    intro  H locs ls h  hP hD hS hl
    rw [f_X10_mark_J25] at h
    refine lv_iload_n hx hb (zat zrX10_mark_0_ok 13 rfl) rfl (lv_at hl 0 rfl) ?_
    exact J26 o1 H _ ls h  hP hD hS (lv_sub hl [1] rfl)
  refine lv_if_ne (tgt := 25) hx hb (zat zrX10_mark_0_ok 5 rfl) (by decide) (fun c7 => ?_) (fun c7 => ?_)
  · have h := (if_neg c7).symm.trans h
    exact J25  H _ ls h  hP hD hS (lv_sub hl [0, 1] rfl)
  · have h := (if_pos c7).symm.trans h
    refine lv_aload_n hx hb (zat zrX10_mark_0_ok 6 rfl) rfl (lv_at hl 1 rfl) ?_
    refine va_get (D := (dC, dI)) (ci := 7) (v := .ref a4) (C := RX10) (T := TX10) (N := 10) hx hb hts ifX10_mark_X10 hown hK hP 12 rfl rfl 4 (by decide) (hts (.fieldLink RX10 36 "HookPier" "history" "LHookPier$History;") (List.mem_of_getElem? (i := 8) rfl)) (fun _ h9 => h9) rfl (zat zrX10_mark_0_ok 7 rfl) ?_
    refine va_get (D := (dC, dI)) (ci := 2) (v := .int h_h.2.2) (C := RX2) (T := TX2) (N := 5) hx hb hts ifX10_mark_X2 hown hK hP 10 rfl rfl 4 (by decide) (hts (.fieldLink RX10 360 "HookPier$History" "marks" "I") (List.mem_of_getElem? (i := 14) rfl)) (fun _ h9 => h9) rfl (zat zrX10_mark_0_ok 8 rfl) ?_
    refine lv_iconst (v := 3) hx hb (zat zrX10_mark_0_ok 9 rfl) (by decide) ?_
    refine lv_icmp_lt (tgt := 25) hx hb (zat zrX10_mark_0_ok 10 rfl) (by decide) (fun c18 => ?_) (fun c18 => ?_)
    · have h := (if_pos c18).symm.trans h
      exact J25  H _ ls h  hP hD hS (lv_sub hl [0, 1] rfl)
    · have h := (if_neg c18).symm.trans h
      refine lv_iconst (v := 3) hx hb (zat zrX10_mark_0_ok 11 rfl) (by decide) ?_
      refine lv_goto (tgt := 26) hx hb (zat zrX10_mark_0_ok 12 rfl) (by decide) ?_
      exact J26 (3 : Int32) H _ ls h  hP hD hS (lv_sub hl [1] rfl)
noncomputable def zrX10_back_0 : List ZR := zc 0 true (.aload_n 0) 1 (zc 1 true (.iload_n 1) 1 (zc 2 true (.iconst 0) 1 (zc 3 true (.aload_n 0) 1 (zc 4 true (.getfield 36) 3 (zc 7 true (.getfield 360) 3 (zc 10 true (.iconst 1) 1 (zc 11 true (.isub) 1 (zc 12 true (.invokestatic 75) 3 (zc 15 true (.ifCond .eq 7) 3 (zc 18 true (.iconst 0) 1 (zc 19 true (.goto 4) 3 (zc 22 true (.iconst 1) 1 (zc 23 true (.invokevirtual 79) 3 (zc 26 true (.ifCond .eq 5) 3 (zc 29 true (.iconst 0) 1 (zc 30 true (.ireturn) 1 (zc 31 true (.aload_n 0) 1 (zc 32 true (.getfield 36) 3 (zc 35 true (.iload_n 1) 1 (zc 36 true (.aload_n 0) 1 (zc 37 true (.getfield 29) 3 (zc 40 true (.invokevirtual 367) 3 (zc 43 true (.iconst 1) 1 (zc 44 true (.ireturn) 1 ([])))))))))))))))))))))))))
theorem zrX10_back_0_ok : zck 0 ((zby cX10_back).drop 0) zrX10_back_0 = true := by decide +kernel
def vfX10_back : List Cond := List.cons (.code yX10_back cX10_back 2 (some .boolean)) (apW [.fieldLink RX10 36 "HookPier" "history" "LHookPier$History;", .fieldLink RX10 360 "HookPier$History" "marks" "I", .methodLink RX10 75 yX10_within, .static yX10_within, .initialized RX10, .methodLink RX10 79 yX10_refused, .instanceMethod yX10_refused, .selects RX10 yX10_refused yX10_refused, .fieldLink RX10 29 "HookPier" "now" "LHookPier$Now;", .methodLink RX10 367 yX2_goBack, .instanceMethod yX2_goBack, .selects RX2 yX2_goBack yX2_goBack, .initialized RX2] (apW wsX100 (apW wsX20 (apW vfX10_within (apW vfX10_refused (vfX2_goBack))))))
theorem ifX10_back_X10 : ∀ w ∈ wsX100, w ∈ vfX10_back := fun _ h => (List.mem_cons_of_mem _ (List.mem_append_right _ (List.mem_append_left _ h)))
theorem ifX10_back_X2 : ∀ w ∈ wsX20, w ∈ vfX10_back := fun _ h => (List.mem_cons_of_mem _ (List.mem_append_right _ (List.mem_append_right _ (List.mem_append_left _ h))))
theorem qfX10_back : Good vfX10_back := gd_cons (by decide +kernel) (gd_app (gd_dec (by decide +kernel) : Good [.fieldLink RX10 36 "HookPier" "history" "LHookPier$History;", .fieldLink RX10 360 "HookPier$History" "marks" "I", .methodLink RX10 75 yX10_within, .static yX10_within, .initialized RX10, .methodLink RX10 79 yX10_refused, .instanceMethod yX10_refused, .selects RX10 yX10_refused yX10_refused, .fieldLink RX10 29 "HookPier" "now" "LHookPier$Now;", .methodLink RX10 367 yX2_goBack, .instanceMethod yX2_goBack, .selects RX2 yX2_goBack yX2_goBack, .initialized RX2]) (gd_app qsX10 (gd_app qsX2 (gd_app qfX10_within (gd_app qfX10_refused qfX2_goBack)))))
theorem gfX10_back_0 : GoodIn vfX10_back (va_wsS RX10 75 yX10_within vfX10_within) := goodIn_app (goodIn_r [.methodLink RX10 75 yX10_within, .static yX10_within, .initialized RX10] [3, 4, 5] rfl (by decide +kernel)) (goodIn_m (fun _ h => (List.mem_cons_of_mem _ (List.mem_append_right _ (List.mem_append_right _ (List.mem_append_right _ (List.mem_append_left _ h)))))) qfX10_within)
theorem gfX10_back_1 : GoodIn vfX10_back (wsV RX10 79 RX10 yX10_refused vfX10_refused) := goodIn_app (goodIn_r [.methodLink RX10 79 yX10_refused, .instanceMethod yX10_refused, .selects RX10 yX10_refused yX10_refused, .initialized RX10] [6, 7, 8, 5] rfl (by decide +kernel)) (goodIn_m (fun _ h => (List.mem_cons_of_mem _ (List.mem_append_right _ (List.mem_append_right _ (List.mem_append_right _ (List.mem_append_right _ (List.mem_append_left _ h))))))) qfX10_refused)
theorem gfX10_back_2 : GoodIn vfX10_back (wsV RX10 367 RX2 yX2_goBack vfX2_goBack) := goodIn_app (goodIn_r [.methodLink RX10 367 yX2_goBack, .instanceMethod yX2_goBack, .selects RX2 yX2_goBack yX2_goBack, .initialized RX2] [10, 11, 12, 13] rfl (by decide +kernel)) (goodIn_m (fun _ h => (List.mem_cons_of_mem _ (List.mem_append_right _ (List.mem_append_right _ (List.mem_append_right _ (List.mem_append_right _ (List.mem_append_right _ h))))))) qfX2_goBack)
set_option maxHeartbeats 2000000 in
set_option maxRecDepth 100000 in
theorem kfX10_back (l : Launch) (dC : Nat → ClassId) (dI : Nat → Nat → Nat) (a0 : Nat) (k1 : Int32) (a2 : Nat) (a3 : Nat) (a4 : Nat) (a5 : Nat) (un : Nat → Nat) (kn : Nat → ClassId) (un2 : Nat → Nat) (kn2 : Nat → ClassId) (x_x : TX10_x) (g11 : Value) (g12 : Value) (g13 : Value) (g14 : Value) (g15 : Value) (g16 : Value) (n_n : TX4_n) (n2_n : TX4_n) (h_h : TX2_h) (g20 : Value) (cB21 : ClassId) (kf22 : Nat → Option Nat) (sz : Nat) (hk : kf22 (k1).toNatClampNeg = some a2) (out : (Int32 × TX10_x × TX4_n × TX2_h)) (h : f_X10_back k1 x_x n_n n2_n h_h = some out) : KCi l yX10_back vfX10_back ({ frames := 4, cells := 0, slots := 0, locals := 104 }) (dC, dI) [.ref a0, .int k1] sz ((a0, .inr (7, [g11, g12, g13, .ref a3, .ref a4, g14, g15, g16, .int x_x.1, .int x_x.2])) :: bX4 a2 un kn n_n (bX4 a3 un2 kn2 n2_n ([(a4, .inr (2, [g20, .ref a5, .int h_h.1, .int h_h.2.1, .int h_h.2.2])), (a5, .inl (cB21, 3, .inr (.inr (.inr (.inr kf22)))))]))) (tX4 kn (tX4 kn2 ((cB21, .object RX4) :: []))) (fun (r : Int32) _ => r = out.1 ∧ (0 ≤ r.toInt ∧ r.toInt ≤ 1)) ((a0, .inr (7, [g11, g12, g13, .ref a3, .ref a4, g14, g15, g16, .int out.2.1.1, .int out.2.1.2])) :: bX4 a2 un kn n_n (bX4 a3 un2 kn2 out.2.2.1 ([(a4, .inr (2, [g20, .ref a5, .int out.2.2.2.1, .int out.2.2.2.2.1, .int out.2.2.2.2.2])), (a5, .inl (cB21, 3, .inr (.inr (.inr (.inr kf22)))))]))) 0 0 := by
  refine Met.ofW (cc := cX10_back) (maxL := 2) (ret := (some .boolean)) (by decide) rfl ?_
  intro p e s m args below meth c s₁ B0 hml hv
  obtain ⟨rfl, hsz, hP, hK, hD0, hN⟩ := hv
  have hx := B0.exec
  have hb := B0.bytes
  have hr := B0.returns
  have hts := atoms_spec (ws := vfX10_back) B0.pre
  have hown : s.vm.findClass RX10 = some m.cls := findClass_of_methodNamed B0.named
  have hlocks := B0.notSynchronized
  subst hsz
  have hD := hD0.self (sz := s.heap.size)
  generalize hAe : va_A ((a0, .inr (7, [g11, g12, g13, .ref a3, .ref a4, g14, g15, g16, .int x_x.1, .int x_x.2])) :: bX4 a2 un kn n_n (bX4 a3 un2 kn2 n2_n ([(a4, .inr (2, [g20, .ref a5, .int h_h.1, .int h_h.2.1, .int h_h.2.2])), (a5, .inl (cB21, 3, .inr (.inr (.inr (.inr kf22)))))]))) s.heap.size = A at hD ⊢
  have hA : ∀ q : Nat, s.heap.size ≤ q → A q := fun q h => by rw [← hAe]; exact Or.inr h
  have hS : va_S A s.heap s.heap [] := va_S.rf
  have hP : va_P (dC, dI) vwCl ((a0, .inr (7, [g11, g12, g13, .ref a3, .ref a4, g14, g15, g16, .int x_x.1, .int x_x.2])) :: bX4 a2 un kn n_n (bX4 a3 un2 kn2 n2_n ([(a4, .inr (2, [g20, .ref a5, .int h_h.1, .int h_h.2.1, .int h_h.2.2])), (a5, .inl (cB21, 3, .inr (.inr (.inr (.inr kf22)))))]))) s.heap := hP
  have hl := lv_entry ([.ref a0, .int k1]) (n := 2) (Nat.le_of_ble_eq_true rfl)
  rw [lg_entry_eq]
  generalize (lg_sl ([.ref a0, .int k1]) ++ List.replicate (2 - (lg_sl ([.ref a0, .int k1])).length) Slot.unset).toArray = ls at hl ⊢
  have hl : lv_has ls 2 [(0, .ref a0), (1, .int k1)] := hl
  refine W_q (fun QQ hQQ => ?_)
  rw [f_X10_back] at h
  refine lv_aload_n hx hb (zat zrX10_back_0_ok 0 rfl) rfl (lv_at hl 0 rfl) ?_
  refine lv_iload_n hx hb (zat zrX10_back_0_ok 1 rfl) rfl (lv_at hl 1 rfl) ?_
  refine lv_iconst (v := 0) hx hb (zat zrX10_back_0_ok 2 rfl) (by decide) ?_
  refine lv_aload_n hx hb (zat zrX10_back_0_ok 3 rfl) rfl (lv_at hl 0 rfl) ?_
  refine va_get (D := (dC, dI)) (ci := 7) (v := .ref a4) (C := RX10) (T := TX10) (N := 10) hx hb hts ifX10_back_X10 hown hK hP 0 rfl rfl 4 (by decide) (hts (.fieldLink RX10 36 "HookPier" "history" "LHookPier$History;") (List.mem_of_getElem? (i := 1) rfl)) (fun _ h9 => h9) rfl (zat zrX10_back_0_ok 4 rfl) ?_
  refine va_get (D := (dC, dI)) (ci := 2) (v := .int h_h.2.2) (C := RX2) (T := TX2) (N := 5) hx hb hts ifX10_back_X2 hown hK hP 11 rfl rfl 4 (by decide) (hts (.fieldLink RX10 360 "HookPier$History" "marks" "I") (List.mem_of_getElem? (i := 2) rfl)) (fun _ h9 => h9) rfl (zat zrX10_back_0_ok 5 rfl) ?_
  refine lv_iconst (v := 1) hx hb (zat zrX10_back_0_ok 6 rfl) (by decide) ?_
  refine lv_isub hx hb (zat zrX10_back_0_ok 7 rfl) ?_
  obtain ⟨o12, eo12⟩ : ∃ o, o = f_X10_within k1 (0 : Int32) (h_h.2.2 - (1 : Int32)) := ⟨_, rfl⟩
  have h := nm_of h o12 eo12
  refine ck_i (wc := []) (wr := ((a0, .inr (7, [g11, g12, g13, .ref a3, .ref a4, g14, g15, g16, .int x_x.1, .int x_x.2])) :: bX4 a2 un kn n_n (bX4 a3 un2 kn2 n2_n ([(a4, .inr (2, [g20, .ref a5, .int h_h.1, .int h_h.2.1, .int h_h.2.2])), (a5, .inl (cB21, 3, .inr (.inr (.inr (.inr kf22)))))])))) hP hD hK hS hA [] [0, 1, 2, 3, 4, 5, 6, 7, 8, 9, 10, 11, 12] rfl rfl (by decide) (by decide) (by decide) (fun hPc hDc => (va_runS (As := [.int k1, .int 0, .int (h_h.2.2 - (1 : Int32))]) (rest := [.ref a0]) ⟨hx, hb, hml, hown, hts⟩ (kfX10_within l dC dI k1 (0 : Int32) (h_h.2.2 - (1 : Int32)) s.heap.size o12 eo12.symm) (va_cwS 3 hts gfX10_back_0 rfl rfl rfl (by decide +kernel) ⟨(Nat.le_of_ble_eq_true rfl), (Nat.le_of_ble_eq_true rfl)⟩) (PS hPc (hK.sub (tys' := ([])) [] rfl) hDc hN) rfl rfl hl.1 rfl (lv_room (Nat.le_of_ble_eq_true rfl)) (zat zrX10_back_0_ok 8 rfl) ⟨(Nat.le_of_ble_eq_true rfl), (Nat.le_of_ble_eq_true rfl)⟩)) (fun r12 _ H locs hw hP hD _ hS => ?_)
  obtain ⟨hw, br12⟩ := hw
  obtain rfl := hw.symm
  obtain ⟨hP, hD⟩ := pd_mk ((a0, .inr (7, [g11, g12, g13, .ref a3, .ref a4, g14, g15, g16, .int x_x.1, .int x_x.2])) :: bX4 a2 un kn n_n (bX4 a3 un2 kn2 n2_n ([(a4, .inr (2, [g20, .ref a5, .int h_h.1, .int h_h.2.1, .int h_h.2.2])), (a5, .inl (cB21, 3, .inr (.inr (.inr (.inr kf22)))))]))) hP hD
  have J23 : ∀ (v23_t1 : Int32) (H : Heap) (locs : List Loc) (ls : Array Slot), f_X10_back_J23 k1 x_x n_n n2_n h_h v23_t1 = some out → 0 ≤ v23_t1.toInt ∧ v23_t1.toInt ≤ 1 → va_P (dC, dI) vwCl ((a0, .inr (7, [g11, g12, g13, .ref a3, .ref a4, g14, g15, g16, .int x_x.1, .int x_x.2])) :: bX4 a2 un kn n_n (bX4 a3 un2 kn2 n2_n ([(a4, .inr (2, [g20, .ref a5, .int h_h.1, .int h_h.2.1, .int h_h.2.2])), (a5, .inl (cB21, 3, .inr (.inr (.inr (.inr kf22)))))]))) H → va_D A ((a0, .inr (7, [g11, g12, g13, .ref a3, .ref a4, g14, g15, g16, .int x_x.1, .int x_x.2])) :: bX4 a2 un kn n_n (bX4 a3 un2 kn2 n2_n ([(a4, .inr (2, [g20, .ref a5, .int h_h.1, .int h_h.2.1, .int h_h.2.2])), (a5, .inl (cB21, 3, .inr (.inr (.inr (.inr kf22)))))]))) → va_S A s.heap H locs → lv_has ls 2 [(0, .ref a0), (1, .int k1)] → W p l e (headSpec vfX10_back { frames := 4, cells := 0, slots := 0, locals := 104 }).room s m ([.ref a0, .int k1]).toArray below meth c H locs 0 0 QQ (F0 m 23 ls [.int v23_t1, .ref a0]) := by
    intro v23_t1 H locs ls h zb_v23_t1 hP hD hS hl
    rw [f_X10_back_J23] at h
    obtain ⟨o23, eo23⟩ : ∃ o, o = f_X10_refused v23_t1 x_x := ⟨_, rfl⟩
    have h := nm_of h o23 eo23
    refine ck_i (wc := ([(a0, .inr (7, [g11, g12, g13, .ref a3, .ref a4, g14, g15, g16, .int x_x.1, .int x_x.2]))])) (wr := (bX4 a2 un kn n_n (bX4 a3 un2 kn2 n2_n ([(a4, .inr (2, [g20, .ref a5, .int h_h.1, .int h_h.2.1, .int h_h.2.2])), (a5, .inl (cB21, 3, .inr (.inr (.inr (.inr kf22)))))])))) hP hD hK hS hA [0] [1, 2, 3, 4, 5, 6, 7, 8, 9, 10, 11, 12] rfl rfl (by decide) (by decide) (by decide) (fun hPc hDc => (va_runV (As := [.int v23_t1]) (rest := []) ⟨hx, hb, hml, hown, hts⟩ (kfX10_refused l dC dI a0 v23_t1 x_x (g11) (g12) (g13) (.ref a3) (.ref a4) (g14) (g15) (g16) H.size o23 eo23.symm) (cwV 1 hts gfX10_back_1 rfl rfl rfl (by decide +kernel) ⟨(Nat.le_of_ble_eq_true rfl), (Nat.le_of_ble_eq_true rfl)⟩) (PV hPc (hK.sub (tys' := ([])) [] rfl) hDc hN 0 rfl rfl) rfl rfl hl.1 rfl (lv_room (Nat.le_of_ble_eq_true rfl)) (zat zrX10_back_0_ok 13 rfl) ⟨(Nat.le_of_ble_eq_true rfl), (Nat.le_of_ble_eq_true rfl)⟩)) (fun r23 _ H locs hw hP hD _ hS => ?_)
    obtain ⟨hw, br23⟩ := hw
    obtain rfl := hw
    obtain ⟨hP, hD⟩ := pd_mk (bX4 a2 un kn n_n (bX4 a3 un2 kn2 n2_n ([(a4, .inr (2, [g20, .ref a5, .int h_h.1, .int h_h.2.1, .int h_h.2.2])), (a5, .inl (cB21, 3, .inr (.inr (.inr (.inr kf22))))), (a0, .inr (7, [g11, g12, g13, .ref a3, .ref a4, g14, g15, g16, .int o23.2.1, .int o23.2.2]))]))) hP hD
    refine lv_if_eq (tgt := 31) hx hb (zat zrX10_back_0_ok 14 rfl) (by decide) (fun c26 => ?_) (fun c26 => ?_)
    · have h := (if_pos c26).symm.trans h
      refine lv_aload_n hx hb (zat zrX10_back_0_ok 17 rfl) rfl (lv_at hl 0 rfl) ?_
      refine va_get (D := (dC, dI)) (ci := 7) (v := .ref a4) (C := RX10) (T := TX10) (N := 10) hx hb hts ifX10_back_X10 hown hK hP 12 rfl rfl 4 (by decide) (hts (.fieldLink RX10 36 "HookPier" "history" "LHookPier$History;") (List.mem_of_getElem? (i := 1) rfl)) (fun _ h9 => h9) rfl (zat zrX10_back_0_ok 18 rfl) ?_
      refine lv_iload_n hx hb (zat zrX10_back_0_ok 19 rfl) rfl (lv_at hl 1 rfl) ?_
      refine lv_aload_n hx hb (zat zrX10_back_0_ok 20 rfl) rfl (lv_at hl 0 rfl) ?_
      refine va_get (D := (dC, dI)) (ci := 7) (v := .ref a3) (C := RX10) (T := TX10) (N := 10) hx hb hts ifX10_back_X10 hown hK hP 12 rfl rfl 3 (by decide) (hts (.fieldLink RX10 29 "HookPier" "now" "LHookPier$Now;") (List.mem_of_getElem? (i := 9) rfl)) (fun _ h9 => h9) rfl (zat zrX10_back_0_ok 21 rfl) ?_
      obtain ⟨o40, eo40, h⟩ := bd_of h
      refine ck_v (wc := ((a4, .inr (2, [g20, .ref a5, .int h_h.1, .int h_h.2.1, .int h_h.2.2])) :: bX4 a3 un2 kn2 n2_n (bX4 a2 un kn n_n ([(a5, .inl (cB21, 3, .inr (.inr (.inr (.inr kf22)))))])))) (wr := ([(a0, .inr (7, [g11, g12, g13, .ref a3, .ref a4, g14, g15, g16, .int o23.2.1, .int o23.2.2]))])) hP hD hK hS hA [10, 5, 6, 7, 8, 9, 0, 1, 2, 3, 4, 11] [12] rfl rfl (by decide) (by decide) (by decide) (fun hPc hDc => (va_runV (As := [.int k1, .ref a3]) (rest := []) ⟨hx, hb, hml, hown, hts⟩ (kfX2_goBack l dC dI a4 k1 a3 a2 a5 un2 kn2 un kn h_h (g20) n2_n n_n cB21 kf22 H.size hk o40 eo40) (cwV 2 hts gfX10_back_2 rfl rfl rfl (by decide +kernel) ⟨(Nat.le_of_ble_eq_true rfl), (Nat.le_of_ble_eq_true rfl)⟩) (PV hPc (hK.sub (tys' := (tX4 kn2 (tX4 kn ((cB21, .object RX4) :: [])))) [4, 5, 6, 7, 0, 1, 2, 3, 8] rfl) hDc hN 0 rfl rfl) rfl rfl hl.1 rfl (lv_room (Nat.le_of_ble_eq_true rfl)) (zat zrX10_back_0_ok 22 rfl) ⟨(Nat.le_of_ble_eq_true rfl), (Nat.le_of_ble_eq_true rfl)⟩)) (fun _ H locs hw hP hD _ hS => ?_)
      obtain ⟨hP, hD⟩ := pd_mk ((a0, .inr (7, [g11, g12, g13, .ref a3, .ref a4, g14, g15, g16, .int o23.2.1, .int o23.2.2])) :: (a4, .inr (2, [g20, .ref a5, .int o40.1.1, .int o40.1.2.1, .int o40.1.2.2])) :: bX4 a3 un2 kn2 o40.2 (bX4 a2 un kn n_n ([(a5, .inl (cB21, 3, .inr (.inr (.inr (.inr kf22)))))]))) hP hD
      refine lv_iconst (v := 1) hx hb (zat zrX10_back_0_ok 23 rfl) (by decide) ?_
      obtain rfl := Option.some.inj h
      obtain ⟨hP9, hD9⟩ := pd_sub ((a0, .inr (7, [g11, g12, g13, .ref a3, .ref a4, g14, g15, g16, .int o23.2.1, .int o23.2.2])) :: bX4 a2 un kn n_n (bX4 a3 un2 kn2 o40.2 ([(a4, .inr (2, [g20, .ref a5, .int o40.1.1, .int o40.1.2.1, .int o40.1.2.2])), (a5, .inl (cB21, 3, .inr (.inr (.inr (.inr kf22)))))]))) [0, 7, 8, 9, 10, 11, 2, 3, 4, 5, 6, 1, 12] hP hD (by decide) rfl
      have hK9 := hK.sub (tys' := []) [] rfl
      rw [hQQ]
      exact W.zret (v := (1 : Int32)) hx hb hr rfl (fun t ht hW => ⟨⟨(1 : Int32), (), rfl, ⟨rfl, (by decide)⟩, by rw [ht]; exact hP9, va_K.moved hW.alike hK9, hD9⟩, hS.F ht⟩) hS.2.2 (zat zrX10_back_0_ok 24 rfl)
    · have h := (if_neg c26).symm.trans h
      refine lv_iconst (v := 0) hx hb (zat zrX10_back_0_ok 15 rfl) (by decide) ?_
      obtain rfl := Option.some.inj h
      obtain ⟨hP9, hD9⟩ := pd_sub ((a0, .inr (7, [g11, g12, g13, .ref a3, .ref a4, g14, g15, g16, .int o23.2.1, .int o23.2.2])) :: bX4 a2 un kn n_n (bX4 a3 un2 kn2 n2_n ([(a4, .inr (2, [g20, .ref a5, .int h_h.1, .int h_h.2.1, .int h_h.2.2])), (a5, .inl (cB21, 3, .inr (.inr (.inr (.inr kf22)))))]))) [12, 0, 1, 2, 3, 4, 5, 6, 7, 8, 9, 10, 11] hP hD (by decide) rfl
      have hK9 := hK.sub (tys' := []) [] rfl
      rw [hQQ]
      exact W.zret (v := (0 : Int32)) hx hb hr rfl (fun t ht hW => ⟨⟨(0 : Int32), (), rfl, ⟨rfl, (by decide)⟩, by rw [ht]; exact hP9, va_K.moved hW.alike hK9, hD9⟩, hS.F ht⟩) hS.2.2 (zat zrX10_back_0_ok 16 rfl)
  refine lv_if_eq (tgt := 22) hx hb (zat zrX10_back_0_ok 9 rfl) (by decide) (fun c15 => ?_) (fun c15 => ?_)
  · have h := (if_pos c15).symm.trans h
    refine lv_iconst (v := 1) hx hb (zat zrX10_back_0_ok 12 rfl) (by decide) ?_
    exact J23 (1 : Int32) H _ ls h (by decide) hP hD hS (lv_sub hl [0, 1] rfl)
  · have h := (if_neg c15).symm.trans h
    refine lv_iconst (v := 0) hx hb (zat zrX10_back_0_ok 10 rfl) (by decide) ?_
    refine lv_goto (tgt := 23) hx hb (zat zrX10_back_0_ok 11 rfl) (by decide) ?_
    exact J23 (0 : Int32) H _ ls h (by decide) hP hD hS (lv_sub hl [0, 1] rfl)
noncomputable def zrX10_feed_0 : List ZR := zc 0 true (.aload_n 0) 1 (zc 1 true (.getfield 22) 3 (zc 4 true (.getfield 68) 3 (zc 7 true (.bipush 20) 2 (zc 9 true (.iadd) 1 (zc 10 true (.sipush 900) 3 (zc 13 true (.if_icmp .le 5) 3 (zc 16 true (.iconst (-1)) 1 (zc 17 true (.ireturn) 1 (zc 18 true (.aload_n 0) 1 (zc 19 true (.getfield 22) 3 (zc 22 true (.iload_n 1) 1 (zc 23 true (.invokevirtual 71) 3 (zc 26 true (.aload_n 0) 1 (zc 27 true (.getfield 22) 3 (zc 30 true (.iload_n 2) 1 (zc 31 true (.invokevirtual 71) 3 (zc 34 true (.aload_n 0) 1 (zc 35 true (.getfield 22) 3 (zc 38 true (.iload_n 3) 1 (zc 39 true (.invokevirtual 71) 3 (zc 42 true (.aload_n 0) 1 (zc 43 true (.getfield 22) 3 (zc 46 true (.iload 4) 2 (zc 48 true (.invokevirtual 71) 3 (zc 51 true (.aload_n 0) 1 (zc 52 true (.getfield 22) 3 (zc 55 true (.iload 5) 2 (zc 57 true (.invokevirtual 71) 3 (zc 60 true (.aload_n 0) 1 (zc 61 true (.getfield 22) 3 (zc 64 true (.getfield 68) 3 (zc 67 true (.ireturn) 1 ([])))))))))))))))))))))))))))))))))
theorem zrX10_feed_0_ok : zck 0 ((zby cX10_feed).drop 0) zrX10_feed_0 = true := by decide +kernel
def vfX10_feed : List Cond := List.cons (.code yX10_feed cX10_feed 6 (some .int)) (apW [.fieldLink RX10 22 "HookPier" "reader" "LHookPier$Reader;", .fieldLink RX10 68 "HookPier$Reader" "fed" "I", .methodLink RX10 71 yX7_put, .instanceMethod yX7_put, .selects RX7 yX7_put yX7_put, .initialized RX7] (apW wsX100 (apW wsX70 (vfX7_put))))
theorem ifX10_feed_X10 : ∀ w ∈ wsX100, w ∈ vfX10_feed := fun _ h => (List.mem_cons_of_mem _ (List.mem_append_right _ (List.mem_append_left _ h)))
theorem ifX10_feed_X7 : ∀ w ∈ wsX70, w ∈ vfX10_feed := fun _ h => (List.mem_cons_of_mem _ (List.mem_append_right _ (List.mem_append_right _ (List.mem_append_left _ h))))
theorem qfX10_feed : Good vfX10_feed := gd_cons (by decide +kernel) (gd_app (gd_dec (by decide +kernel) : Good [.fieldLink RX10 22 "HookPier" "reader" "LHookPier$Reader;", .fieldLink RX10 68 "HookPier$Reader" "fed" "I", .methodLink RX10 71 yX7_put, .instanceMethod yX7_put, .selects RX7 yX7_put yX7_put, .initialized RX7]) (gd_app qsX10 (gd_app qsX7 qfX7_put)))
theorem gfX10_feed_0 : GoodIn vfX10_feed (wsV RX10 71 RX7 yX7_put vfX7_put) := goodIn_app (goodIn_r [.methodLink RX10 71 yX7_put, .instanceMethod yX7_put, .selects RX7 yX7_put yX7_put, .initialized RX7] [3, 4, 5, 6] rfl (by decide +kernel)) (goodIn_m (fun _ h => (List.mem_cons_of_mem _ (List.mem_append_right _ (List.mem_append_right _ (List.mem_append_right _ h))))) qfX7_put)
set_option maxHeartbeats 2000000 in
set_option maxRecDepth 100000 in
theorem kfX10_feed (l : Launch) (dC : Nat → ClassId) (dI : Nat → Nat → Nat) (a0 : Nat) (k1 : Int32) (k2 : Int32) (k3 : Int32) (k4 : Int32) (k5 : Int32) (a6 : Nat) (ur : Nat → Nat) (kr : Nat → ClassId) (g9 : Value) (g10 : Value) (g11 : Value) (g12 : Value) (g13 : Value) (g14 : Value) (g15 : Value) (g16 : Value) (g17 : Value) (r_r : TX7_r) (sz : Nat) (out : (Int32 × TX7_r)) (h : f_X10_feed k1 k2 k3 k4 k5 r_r = some out) : KCi l yX10_feed vfX10_feed ({ frames := 1, cells := 0, slots := 0, locals := 22 }) (dC, dI) [.ref a0, .int k1, .int k2, .int k3, .int k4, .int k5] sz ((a0, .inr (7, [g9, g10, .ref a6, g11, g12, g13, g14, g15, g16, g17])) :: bX7 a6 ur kr r_r []) (tX7 kr ([])) (fun (r : Int32) _ => r = out.1) ((a0, .inr (7, [g9, g10, .ref a6, g11, g12, g13, g14, g15, g16, g17])) :: bX7 a6 ur kr out.2 []) 0 0 := by
  refine Met.ofW (cc := cX10_feed) (maxL := 6) (ret := (some .int)) (by decide) rfl ?_
  intro p e s m args below meth c s₁ B0 hml hv
  obtain ⟨rfl, hsz, hP, hK, hD0, hN⟩ := hv
  have hx := B0.exec
  have hb := B0.bytes
  have hr := B0.returns
  have hts := atoms_spec (ws := vfX10_feed) B0.pre
  have hown : s.vm.findClass RX10 = some m.cls := findClass_of_methodNamed B0.named
  have hlocks := B0.notSynchronized
  subst hsz
  have hD := hD0.self (sz := s.heap.size)
  generalize hAe : va_A ((a0, .inr (7, [g9, g10, .ref a6, g11, g12, g13, g14, g15, g16, g17])) :: bX7 a6 ur kr r_r []) s.heap.size = A at hD ⊢
  have hA : ∀ q : Nat, s.heap.size ≤ q → A q := fun q h => by rw [← hAe]; exact Or.inr h
  have hS : va_S A s.heap s.heap [] := va_S.rf
  have hP : va_P (dC, dI) vwCl ((a0, .inr (7, [g9, g10, .ref a6, g11, g12, g13, g14, g15, g16, g17])) :: bX7 a6 ur kr r_r []) s.heap := hP
  have hl := lv_entry ([.ref a0, .int k1, .int k2, .int k3, .int k4, .int k5]) (n := 6) (Nat.le_of_ble_eq_true rfl)
  rw [lg_entry_eq]
  generalize (lg_sl ([.ref a0, .int k1, .int k2, .int k3, .int k4, .int k5]) ++ List.replicate (6 - (lg_sl ([.ref a0, .int k1, .int k2, .int k3, .int k4, .int k5])).length) Slot.unset).toArray = ls at hl ⊢
  have hl : lv_has ls 6 [(0, .ref a0), (1, .int k1), (2, .int k2), (3, .int k3), (4, .int k4), (5, .int k5)] := hl
  refine W_q (fun QQ hQQ => ?_)
  rw [f_X10_feed] at h
  refine lv_aload_n hx hb (zat zrX10_feed_0_ok 0 rfl) rfl (lv_at hl 0 rfl) ?_
  refine va_get (D := (dC, dI)) (ci := 7) (v := .ref a6) (C := RX10) (T := TX10) (N := 10) hx hb hts ifX10_feed_X10 hown hK hP 0 rfl rfl 2 (by decide) (hts (.fieldLink RX10 22 "HookPier" "reader" "LHookPier$Reader;") (List.mem_of_getElem? (i := 1) rfl)) (fun _ h9 => h9) rfl (zat zrX10_feed_0_ok 1 rfl) ?_
  refine va_get (D := (dC, dI)) (ci := 5) (v := .int r_r.2.1) (C := RX7) (T := TX7) (N := 12) hx hb hts ifX10_feed_X7 hown hK hP 1 rfl rfl 1 (by decide) (hts (.fieldLink RX10 68 "HookPier$Reader" "fed" "I") (List.mem_of_getElem? (i := 2) rfl)) (fun _ h9 => h9) rfl (zat zrX10_feed_0_ok 2 rfl) ?_
  refine lv_bipush (v := 20) hx hb (zat zrX10_feed_0_ok 3 rfl) (by decide) ?_
  refine lv_iadd hx hb (zat zrX10_feed_0_ok 4 rfl) ?_
  refine lv_sipush (v := 900) hx hb (zat zrX10_feed_0_ok 5 rfl) (by decide) ?_
  refine lv_icmp_le (tgt := 18) hx hb (zat zrX10_feed_0_ok 6 rfl) (by decide) (fun c13 => ?_) (fun c13 => ?_)
  · have h := (if_pos c13).symm.trans h
    refine lv_aload_n hx hb (zat zrX10_feed_0_ok 9 rfl) rfl (lv_at hl 0 rfl) ?_
    refine va_get (D := (dC, dI)) (ci := 7) (v := .ref a6) (C := RX10) (T := TX10) (N := 10) hx hb hts ifX10_feed_X10 hown hK hP 0 rfl rfl 2 (by decide) (hts (.fieldLink RX10 22 "HookPier" "reader" "LHookPier$Reader;") (List.mem_of_getElem? (i := 1) rfl)) (fun _ h9 => h9) rfl (zat zrX10_feed_0_ok 10 rfl) ?_
    refine lv_iload_n hx hb (zat zrX10_feed_0_ok 11 rfl) rfl (lv_at hl 1 rfl) ?_
    obtain ⟨o23, eo23, h⟩ := bd_of h
    refine ck_v (wc := (bX7 a6 ur kr r_r [])) (wr := ([(a0, .inr (7, [g9, g10, .ref a6, g11, g12, g13, g14, g15, g16, g17]))])) hP hD hK hS hA [1, 2, 3, 4] [0] rfl rfl (by decide) (by decide) (by decide) (fun hPc hDc => (va_runV (As := [.int k1]) (rest := []) ⟨hx, hb, hml, hown, hts⟩ (kfX7_put l dC dI a6 k1 ur kr r_r s.heap.size o23 eo23) (cwV 1 hts gfX10_feed_0 rfl rfl rfl (by decide +kernel) ⟨(Nat.le_of_ble_eq_true rfl), (Nat.le_of_ble_eq_true rfl)⟩) (PV hPc (hK.sub (tys' := (tX7 kr ([]))) [0, 1, 2] rfl) hDc hN 0 rfl rfl) rfl rfl hl.1 rfl (lv_room (Nat.le_of_ble_eq_true rfl)) (zat zrX10_feed_0_ok 12 rfl) ⟨(Nat.le_of_ble_eq_true rfl), (Nat.le_of_ble_eq_true rfl)⟩)) (fun _ H locs hw hP hD _ hS => ?_)
    obtain ⟨hP, hD⟩ := pd_mk ((a0, .inr (7, [g9, g10, .ref a6, g11, g12, g13, g14, g15, g16, g17])) :: bX7 a6 ur kr o23 []) hP hD
    refine lv_aload_n hx hb (zat zrX10_feed_0_ok 13 rfl) rfl (lv_at hl 0 rfl) ?_
    refine va_get (D := (dC, dI)) (ci := 7) (v := .ref a6) (C := RX10) (T := TX10) (N := 10) hx hb hts ifX10_feed_X10 hown hK hP 0 rfl rfl 2 (by decide) (hts (.fieldLink RX10 22 "HookPier" "reader" "LHookPier$Reader;") (List.mem_of_getElem? (i := 1) rfl)) (fun _ h9 => h9) rfl (zat zrX10_feed_0_ok 14 rfl) ?_
    refine lv_iload_n hx hb (zat zrX10_feed_0_ok 15 rfl) rfl (lv_at hl 2 rfl) ?_
    obtain ⟨o31, eo31, h⟩ := bd_of h
    refine ck_v (wc := (bX7 a6 ur kr o23 [])) (wr := ([(a0, .inr (7, [g9, g10, .ref a6, g11, g12, g13, g14, g15, g16, g17]))])) hP hD hK hS hA [1, 2, 3, 4] [0] rfl rfl (by decide) (by decide) (by decide) (fun hPc hDc => (va_runV (As := [.int k2]) (rest := []) ⟨hx, hb, hml, hown, hts⟩ (kfX7_put l dC dI a6 k2 ur kr o23 H.size o31 eo31) (cwV 1 hts gfX10_feed_0 rfl rfl rfl (by decide +kernel) ⟨(Nat.le_of_ble_eq_true rfl), (Nat.le_of_ble_eq_true rfl)⟩) (PV hPc (hK.sub (tys' := (tX7 kr ([]))) [0, 1, 2] rfl) hDc hN 0 rfl rfl) rfl rfl hl.1 rfl (lv_room (Nat.le_of_ble_eq_true rfl)) (zat zrX10_feed_0_ok 16 rfl) ⟨(Nat.le_of_ble_eq_true rfl), (Nat.le_of_ble_eq_true rfl)⟩)) (fun _ H locs hw hP hD _ hS => ?_)
    obtain ⟨hP, hD⟩ := pd_mk ((a0, .inr (7, [g9, g10, .ref a6, g11, g12, g13, g14, g15, g16, g17])) :: bX7 a6 ur kr o31 []) hP hD
    refine lv_aload_n hx hb (zat zrX10_feed_0_ok 17 rfl) rfl (lv_at hl 0 rfl) ?_
    refine va_get (D := (dC, dI)) (ci := 7) (v := .ref a6) (C := RX10) (T := TX10) (N := 10) hx hb hts ifX10_feed_X10 hown hK hP 0 rfl rfl 2 (by decide) (hts (.fieldLink RX10 22 "HookPier" "reader" "LHookPier$Reader;") (List.mem_of_getElem? (i := 1) rfl)) (fun _ h9 => h9) rfl (zat zrX10_feed_0_ok 18 rfl) ?_
    refine lv_iload_n hx hb (zat zrX10_feed_0_ok 19 rfl) rfl (lv_at hl 3 rfl) ?_
    obtain ⟨o39, eo39, h⟩ := bd_of h
    refine ck_v (wc := (bX7 a6 ur kr o31 [])) (wr := ([(a0, .inr (7, [g9, g10, .ref a6, g11, g12, g13, g14, g15, g16, g17]))])) hP hD hK hS hA [1, 2, 3, 4] [0] rfl rfl (by decide) (by decide) (by decide) (fun hPc hDc => (va_runV (As := [.int k3]) (rest := []) ⟨hx, hb, hml, hown, hts⟩ (kfX7_put l dC dI a6 k3 ur kr o31 H.size o39 eo39) (cwV 1 hts gfX10_feed_0 rfl rfl rfl (by decide +kernel) ⟨(Nat.le_of_ble_eq_true rfl), (Nat.le_of_ble_eq_true rfl)⟩) (PV hPc (hK.sub (tys' := (tX7 kr ([]))) [0, 1, 2] rfl) hDc hN 0 rfl rfl) rfl rfl hl.1 rfl (lv_room (Nat.le_of_ble_eq_true rfl)) (zat zrX10_feed_0_ok 20 rfl) ⟨(Nat.le_of_ble_eq_true rfl), (Nat.le_of_ble_eq_true rfl)⟩)) (fun _ H locs hw hP hD _ hS => ?_)
    obtain ⟨hP, hD⟩ := pd_mk ((a0, .inr (7, [g9, g10, .ref a6, g11, g12, g13, g14, g15, g16, g17])) :: bX7 a6 ur kr o39 []) hP hD
    refine lv_aload_n hx hb (zat zrX10_feed_0_ok 21 rfl) rfl (lv_at hl 0 rfl) ?_
    refine va_get (D := (dC, dI)) (ci := 7) (v := .ref a6) (C := RX10) (T := TX10) (N := 10) hx hb hts ifX10_feed_X10 hown hK hP 0 rfl rfl 2 (by decide) (hts (.fieldLink RX10 22 "HookPier" "reader" "LHookPier$Reader;") (List.mem_of_getElem? (i := 1) rfl)) (fun _ h9 => h9) rfl (zat zrX10_feed_0_ok 22 rfl) ?_
    refine lv_iload hx hb (zat zrX10_feed_0_ok 23 rfl) (lv_at hl 4 rfl) ?_
    obtain ⟨o48, eo48, h⟩ := bd_of h
    refine ck_v (wc := (bX7 a6 ur kr o39 [])) (wr := ([(a0, .inr (7, [g9, g10, .ref a6, g11, g12, g13, g14, g15, g16, g17]))])) hP hD hK hS hA [1, 2, 3, 4] [0] rfl rfl (by decide) (by decide) (by decide) (fun hPc hDc => (va_runV (As := [.int k4]) (rest := []) ⟨hx, hb, hml, hown, hts⟩ (kfX7_put l dC dI a6 k4 ur kr o39 H.size o48 eo48) (cwV 1 hts gfX10_feed_0 rfl rfl rfl (by decide +kernel) ⟨(Nat.le_of_ble_eq_true rfl), (Nat.le_of_ble_eq_true rfl)⟩) (PV hPc (hK.sub (tys' := (tX7 kr ([]))) [0, 1, 2] rfl) hDc hN 0 rfl rfl) rfl rfl hl.1 rfl (lv_room (Nat.le_of_ble_eq_true rfl)) (zat zrX10_feed_0_ok 24 rfl) ⟨(Nat.le_of_ble_eq_true rfl), (Nat.le_of_ble_eq_true rfl)⟩)) (fun _ H locs hw hP hD _ hS => ?_)
    obtain ⟨hP, hD⟩ := pd_mk ((a0, .inr (7, [g9, g10, .ref a6, g11, g12, g13, g14, g15, g16, g17])) :: bX7 a6 ur kr o48 []) hP hD
    refine lv_aload_n hx hb (zat zrX10_feed_0_ok 25 rfl) rfl (lv_at hl 0 rfl) ?_
    refine va_get (D := (dC, dI)) (ci := 7) (v := .ref a6) (C := RX10) (T := TX10) (N := 10) hx hb hts ifX10_feed_X10 hown hK hP 0 rfl rfl 2 (by decide) (hts (.fieldLink RX10 22 "HookPier" "reader" "LHookPier$Reader;") (List.mem_of_getElem? (i := 1) rfl)) (fun _ h9 => h9) rfl (zat zrX10_feed_0_ok 26 rfl) ?_
    refine lv_iload hx hb (zat zrX10_feed_0_ok 27 rfl) (lv_at hl 5 rfl) ?_
    obtain ⟨o57, eo57, h⟩ := bd_of h
    refine ck_v (wc := (bX7 a6 ur kr o48 [])) (wr := ([(a0, .inr (7, [g9, g10, .ref a6, g11, g12, g13, g14, g15, g16, g17]))])) hP hD hK hS hA [1, 2, 3, 4] [0] rfl rfl (by decide) (by decide) (by decide) (fun hPc hDc => (va_runV (As := [.int k5]) (rest := []) ⟨hx, hb, hml, hown, hts⟩ (kfX7_put l dC dI a6 k5 ur kr o48 H.size o57 eo57) (cwV 1 hts gfX10_feed_0 rfl rfl rfl (by decide +kernel) ⟨(Nat.le_of_ble_eq_true rfl), (Nat.le_of_ble_eq_true rfl)⟩) (PV hPc (hK.sub (tys' := (tX7 kr ([]))) [0, 1, 2] rfl) hDc hN 0 rfl rfl) rfl rfl hl.1 rfl (lv_room (Nat.le_of_ble_eq_true rfl)) (zat zrX10_feed_0_ok 28 rfl) ⟨(Nat.le_of_ble_eq_true rfl), (Nat.le_of_ble_eq_true rfl)⟩)) (fun _ H locs hw hP hD _ hS => ?_)
    obtain ⟨hP, hD⟩ := pd_mk ((a0, .inr (7, [g9, g10, .ref a6, g11, g12, g13, g14, g15, g16, g17])) :: bX7 a6 ur kr o57 []) hP hD
    refine lv_aload_n hx hb (zat zrX10_feed_0_ok 29 rfl) rfl (lv_at hl 0 rfl) ?_
    refine va_get (D := (dC, dI)) (ci := 7) (v := .ref a6) (C := RX10) (T := TX10) (N := 10) hx hb hts ifX10_feed_X10 hown hK hP 0 rfl rfl 2 (by decide) (hts (.fieldLink RX10 22 "HookPier" "reader" "LHookPier$Reader;") (List.mem_of_getElem? (i := 1) rfl)) (fun _ h9 => h9) rfl (zat zrX10_feed_0_ok 30 rfl) ?_
    refine va_get (D := (dC, dI)) (ci := 5) (v := .int o57.2.1) (C := RX7) (T := TX7) (N := 12) hx hb hts ifX10_feed_X7 hown hK hP 1 rfl rfl 1 (by decide) (hts (.fieldLink RX10 68 "HookPier$Reader" "fed" "I") (List.mem_of_getElem? (i := 2) rfl)) (fun _ h9 => h9) rfl (zat zrX10_feed_0_ok 31 rfl) ?_
    obtain rfl := Option.some.inj h
    obtain ⟨hP9, hD9⟩ := pd_sub ((a0, .inr (7, [g9, g10, .ref a6, g11, g12, g13, g14, g15, g16, g17])) :: bX7 a6 ur kr o57 []) [0, 1, 2, 3, 4] hP hD (by decide) rfl
    have hK9 := hK.sub (tys' := []) [] rfl
    rw [hQQ]
    exact W.iret (v := o57.2.1) hx hb hr (fun t ht hW => ⟨⟨o57.2.1, (), rfl, rfl, by rw [ht]; exact hP9, va_K.moved hW.alike hK9, hD9⟩, hS.F ht⟩) hS.2.2 (zat zrX10_feed_0_ok 32 rfl)
  · have h := (if_neg c13).symm.trans h
    refine lv_iconst (v := (-1)) hx hb (zat zrX10_feed_0_ok 7 rfl) (by decide) ?_
    obtain rfl := Option.some.inj h
    obtain ⟨hP9, hD9⟩ := pd_sub ((a0, .inr (7, [g9, g10, .ref a6, g11, g12, g13, g14, g15, g16, g17])) :: bX7 a6 ur kr r_r []) [0, 1, 2, 3, 4] hP hD (by decide) rfl
    have hK9 := hK.sub (tys' := []) [] rfl
    rw [hQQ]
    exact W.iret (v := (-1 : Int32)) hx hb hr (fun t ht hW => ⟨⟨(-1 : Int32), (), rfl, rfl, by rw [ht]; exact hP9, va_K.moved hW.alike hK9, hD9⟩, hS.F ht⟩) hS.2.2 (zat zrX10_feed_0_ok 8 rfl)
noncomputable def zrX10_fault_0 : List ZR := zc 0 true (.aload_n 0) 1 (zc 1 true (.getfield 65) 3 (zc 4 true (.ireturn) 1 ([])))
theorem zrX10_fault_0_ok : zck 0 ((zby cX10_fault).drop 0) zrX10_fault_0 = true := by decide +kernel
def vfX10_fault : List Cond := List.cons (.code yX10_fault cX10_fault 1 (some .int)) (apW [.fieldLink RX10 65 "HookPier" "faultNow" "I"] (wsX100))
theorem ifX10_fault_X10 : ∀ w ∈ wsX100, w ∈ vfX10_fault := fun _ h => (List.mem_cons_of_mem _ (List.mem_append_right _ h))
theorem qfX10_fault : Good vfX10_fault := gd_cons (by decide +kernel) (gd_app (gd_dec (by decide +kernel) : Good [.fieldLink RX10 65 "HookPier" "faultNow" "I"]) qsX10)
set_option maxHeartbeats 2000000 in
set_option maxRecDepth 100000 in
theorem kfX10_fault (l : Launch) (dC : Nat → ClassId) (dI : Nat → Nat → Nat) (a0 : Nat) (x_x : TX10_x) (g2 : Value) (g3 : Value) (g4 : Value) (g5 : Value) (g6 : Value) (g7 : Value) (g8 : Value) (g9 : Value) (sz : Nat) (out : Int32) (h : f_X10_fault x_x = out) : KDi l yX10_fault vfX10_fault ({ frames := 0, cells := 0, slots := 0, locals := 0 }) (dC, dI) [.ref a0] sz ([(a0, .inr (7, [g2, g3, g4, g5, g6, g7, g8, g9, .int x_x.1, .int x_x.2]))]) ([]) (fun (r : Int32) _ => r = out) 0 0 := by
  refine Met.ofW (cc := cX10_fault) (maxL := 1) (ret := (some .int)) (by decide) rfl ?_
  intro p e s m args below meth c s₁ B0 hml hv
  obtain ⟨rfl, hsz, hP, hK, hD0, hN⟩ := hv
  have hx := B0.exec
  have hb := B0.bytes
  have hr := B0.returns
  have hts := atoms_spec (ws := vfX10_fault) B0.pre
  have hown : s.vm.findClass RX10 = some m.cls := findClass_of_methodNamed B0.named
  have hlocks := B0.notSynchronized
  subst hsz
  have hD := hD0.self (sz := s.heap.size)
  generalize hAe : va_A ([(a0, .inr (7, [g2, g3, g4, g5, g6, g7, g8, g9, .int x_x.1, .int x_x.2]))]) s.heap.size = A at hD ⊢
  have hA : ∀ q : Nat, s.heap.size ≤ q → A q := fun q h => by rw [← hAe]; exact Or.inr h
  have hS : va_S A s.heap s.heap [] := va_S.rf
  have hP : va_P (dC, dI) vwCl ([(a0, .inr (7, [g2, g3, g4, g5, g6, g7, g8, g9, .int x_x.1, .int x_x.2]))]) s.heap := hP
  have hl := lv_entry ([.ref a0]) (n := 1) (Nat.le_of_ble_eq_true rfl)
  rw [lg_entry_eq]
  generalize (lg_sl ([.ref a0]) ++ List.replicate (1 - (lg_sl ([.ref a0])).length) Slot.unset).toArray = ls at hl ⊢
  have hl : lv_has ls 1 [(0, .ref a0)] := hl
  refine W_q (fun QQ hQQ => ?_)
  rw [f_X10_fault] at h
  refine lv_aload_n hx hb (zat zrX10_fault_0_ok 0 rfl) rfl (lv_at hl 0 rfl) ?_
  refine va_get (D := (dC, dI)) (ci := 7) (v := .int x_x.2) (C := RX10) (T := TX10) (N := 10) hx hb hts ifX10_fault_X10 hown hK hP 0 rfl rfl 9 (by decide) (hts (.fieldLink RX10 65 "HookPier" "faultNow" "I") (List.mem_of_getElem? (i := 1) rfl)) (fun _ h9 => h9) rfl (zat zrX10_fault_0_ok 1 rfl) ?_
  obtain rfl := h
  obtain ⟨hP9, hD9⟩ := pd_sub ([(a0, .inr (7, [g2, g3, g4, g5, g6, g7, g8, g9, .int x_x.1, .int x_x.2]))]) [0] hP hD (by decide) rfl
  have hK9 := hK.sub (tys' := []) [] rfl
  rw [hQQ]
  exact W.iret (v := x_x.2) hx hb hr (fun t ht hW => ⟨⟨x_x.2, (), rfl, rfl, by rw [ht]; exact hP9, va_K.moved hW.alike hK9, hD9⟩, hS.F ht⟩) hS.2.2 (zat zrX10_fault_0_ok 2 rfl)
noncomputable def zrX10_where_0 : List ZR := zc 0 true (.aload_n 0) 1 (zc 1 true (.getfield 61) 3 (zc 4 true (.iconst 4) 1 (zc 5 true (.if_icmp .ne 13) 3 (zc 8 true (.aload_n 0) 1 (zc 9 true (.getfield 22) 3 (zc 12 true (.getfield 99) 3 (zc 15 true (.goto 4) 3 (zc 18 true (.iconst (-1)) 1 (zc 19 true (.ireturn) 1 ([]))))))))))
theorem zrX10_where_0_ok : zck 0 ((zby cX10_where).drop 0) zrX10_where_0 = true := by decide +kernel
def vfX10_where : List Cond := List.cons (.code yX10_where cX10_where 1 (some .int)) (apW [.fieldLink RX10 61 "HookPier" "troubleNow" "I", .fieldLink RX10 22 "HookPier" "reader" "LHookPier$Reader;", .fieldLink RX10 99 "HookPier$Reader" "place" "I"] (apW wsX100 (wsX70)))
theorem ifX10_where_X10 : ∀ w ∈ wsX100, w ∈ vfX10_where := fun _ h => (List.mem_cons_of_mem _ (List.mem_append_right _ (List.mem_append_left _ h)))
theorem ifX10_where_X7 : ∀ w ∈ wsX70, w ∈ vfX10_where := fun _ h => (List.mem_cons_of_mem _ (List.mem_append_right _ (List.mem_append_right _ h)))
theorem qfX10_where : Good vfX10_where := gd_cons (by decide +kernel) (gd_app (gd_dec (by decide +kernel) : Good [.fieldLink RX10 61 "HookPier" "troubleNow" "I", .fieldLink RX10 22 "HookPier" "reader" "LHookPier$Reader;", .fieldLink RX10 99 "HookPier$Reader" "place" "I"]) (gd_app qsX10 qsX7))
set_option maxHeartbeats 2000000 in
set_option maxRecDepth 100000 in
theorem kfX10_where (l : Launch) (dC : Nat → ClassId) (dI : Nat → Nat → Nat) (a0 : Nat) (a1 : Nat) (ur : Nat → Nat) (kr : Nat → ClassId) (x_x : TX10_x) (g5 : Value) (g6 : Value) (g7 : Value) (g8 : Value) (g9 : Value) (g10 : Value) (g11 : Value) (r_r : TX7_r) (sz : Nat) (out : Int32) (h : f_X10_where x_x r_r = out) : KDi l yX10_where vfX10_where ({ frames := 0, cells := 0, slots := 0, locals := 0 }) (dC, dI) [.ref a0] sz ((a0, .inr (7, [g5, g6, .ref a1, g7, g8, g9, g10, g11, .int x_x.1, .int x_x.2])) :: bX7 a1 ur kr r_r []) (tX7 kr ([])) (fun (r : Int32) _ => r = out) 0 0 := by
  refine Met.ofW (cc := cX10_where) (maxL := 1) (ret := (some .int)) (by decide) rfl ?_
  intro p e s m args below meth c s₁ B0 hml hv
  obtain ⟨rfl, hsz, hP, hK, hD0, hN⟩ := hv
  have hx := B0.exec
  have hb := B0.bytes
  have hr := B0.returns
  have hts := atoms_spec (ws := vfX10_where) B0.pre
  have hown : s.vm.findClass RX10 = some m.cls := findClass_of_methodNamed B0.named
  have hlocks := B0.notSynchronized
  subst hsz
  have hD := hD0.self (sz := s.heap.size)
  generalize hAe : va_A ((a0, .inr (7, [g5, g6, .ref a1, g7, g8, g9, g10, g11, .int x_x.1, .int x_x.2])) :: bX7 a1 ur kr r_r []) s.heap.size = A at hD ⊢
  have hA : ∀ q : Nat, s.heap.size ≤ q → A q := fun q h => by rw [← hAe]; exact Or.inr h
  have hS : va_S A s.heap s.heap [] := va_S.rf
  have hP : va_P (dC, dI) vwCl ((a0, .inr (7, [g5, g6, .ref a1, g7, g8, g9, g10, g11, .int x_x.1, .int x_x.2])) :: bX7 a1 ur kr r_r []) s.heap := hP
  have hl := lv_entry ([.ref a0]) (n := 1) (Nat.le_of_ble_eq_true rfl)
  rw [lg_entry_eq]
  generalize (lg_sl ([.ref a0]) ++ List.replicate (1 - (lg_sl ([.ref a0])).length) Slot.unset).toArray = ls at hl ⊢
  have hl : lv_has ls 1 [(0, .ref a0)] := hl
  refine W_q (fun QQ hQQ => ?_)
  rw [f_X10_where] at h
  refine lv_aload_n hx hb (zat zrX10_where_0_ok 0 rfl) rfl (lv_at hl 0 rfl) ?_
  refine va_get (D := (dC, dI)) (ci := 7) (v := .int x_x.1) (C := RX10) (T := TX10) (N := 10) hx hb hts ifX10_where_X10 hown hK hP 0 rfl rfl 8 (by decide) (hts (.fieldLink RX10 61 "HookPier" "troubleNow" "I") (List.mem_of_getElem? (i := 1) rfl)) (fun _ h9 => h9) rfl (zat zrX10_where_0_ok 1 rfl) ?_
  refine lv_iconst (v := 4) hx hb (zat zrX10_where_0_ok 2 rfl) (by decide) ?_
  refine lv_icmp_ne (tgt := 18) hx hb (zat zrX10_where_0_ok 3 rfl) (by decide) (fun c5 => ?_) (fun c5 => ?_)
  · have h := (if_neg c5).symm.trans h
    refine lv_iconst (v := (-1)) hx hb (zat zrX10_where_0_ok 8 rfl) (by decide) ?_
    obtain rfl := h
    obtain ⟨hP9, hD9⟩ := pd_sub ((a0, .inr (7, [g5, g6, .ref a1, g7, g8, g9, g10, g11, .int x_x.1, .int x_x.2])) :: bX7 a1 ur kr r_r []) [0, 1, 2, 3, 4] hP hD (by decide) rfl
    have hK9 := hK.sub (tys' := []) [] rfl
    rw [hQQ]
    exact W.iret (v := (-1 : Int32)) hx hb hr (fun t ht hW => ⟨⟨(-1 : Int32), (), rfl, rfl, by rw [ht]; exact hP9, va_K.moved hW.alike hK9, hD9⟩, hS.F ht⟩) hS.2.2 (zat zrX10_where_0_ok 9 rfl)
  · have h := (if_pos c5).symm.trans h
    refine lv_aload_n hx hb (zat zrX10_where_0_ok 4 rfl) rfl (lv_at hl 0 rfl) ?_
    refine va_get (D := (dC, dI)) (ci := 7) (v := .ref a1) (C := RX10) (T := TX10) (N := 10) hx hb hts ifX10_where_X10 hown hK hP 0 rfl rfl 2 (by decide) (hts (.fieldLink RX10 22 "HookPier" "reader" "LHookPier$Reader;") (List.mem_of_getElem? (i := 2) rfl)) (fun _ h9 => h9) rfl (zat zrX10_where_0_ok 5 rfl) ?_
    refine va_get (D := (dC, dI)) (ci := 5) (v := .int r_r.2.2.2.2.2.2.2.2.2.2.2) (C := RX7) (T := TX7) (N := 12) hx hb hts ifX10_where_X7 hown hK hP 1 rfl rfl 11 (by decide) (hts (.fieldLink RX10 99 "HookPier$Reader" "place" "I") (List.mem_of_getElem? (i := 3) rfl)) (fun _ h9 => h9) rfl (zat zrX10_where_0_ok 6 rfl) ?_
    refine lv_goto (tgt := 19) hx hb (zat zrX10_where_0_ok 7 rfl) (by decide) ?_
    obtain rfl := h
    obtain ⟨hP9, hD9⟩ := pd_sub ((a0, .inr (7, [g5, g6, .ref a1, g7, g8, g9, g10, g11, .int x_x.1, .int x_x.2])) :: bX7 a1 ur kr r_r []) [0, 1, 2, 3, 4] hP hD (by decide) rfl
    have hK9 := hK.sub (tys' := []) [] rfl
    rw [hQQ]
    exact W.iret (v := r_r.2.2.2.2.2.2.2.2.2.2.2) hx hb hr (fun t ht hW => ⟨⟨r_r.2.2.2.2.2.2.2.2.2.2.2, (), rfl, rfl, by rw [ht]; exact hP9, va_K.moved hW.alike hK9, hD9⟩, hS.F ht⟩) hS.2.2 (zat zrX10_where_0_ok 9 rfl)
noncomputable def zrX10_size_0 : List ZR := zc 0 true (.iload_n 1) 1 (zc 1 false (.nop) 63 (zc 64 true (.aload_n 0) 1 (zc 65 true (.getfield 10) 3 (zc 68 true (.getfield 233) 3 (zc 71 true (.ireturn) 1 (zc 72 true (.aload_n 0) 1 (zc 73 true (.getfield 10) 3 (zc 76 true (.getfield 378) 3 (zc 79 true (.ireturn) 1 (zc 80 true (.aload_n 0) 1 (zc 81 true (.getfield 10) 3 (zc 84 true (.getfield 224) 3 (zc 87 true (.ireturn) 1 (zc 88 true (.aload_n 0) 1 (zc 89 true (.getfield 10) 3 (zc 92 true (.getfield 246) 3 (zc 95 true (.ireturn) 1 (zc 96 true (.aload_n 0) 1 (zc 97 true (.getfield 10) 3 (zc 100 true (.getfield 96) 3 (zc 103 true (.ireturn) 1 (zc 104 true (.aload_n 0) 1 (zc 105 true (.getfield 10) 3 (zc 108 true (.getfield 284) 3 (zc 111 true (.ireturn) 1 (zc 112 true (.aload_n 0) 1 (zc 113 true (.getfield 29) 3 (zc 116 true (.getfield 134) 3 (zc 119 true (.ireturn) 1 (zc 120 true (.aload_n 0) 1 (zc 121 true (.getfield 29) 3 (zc 124 true (.getfield 351) 3 (zc 127 true (.ireturn) 1 (zc 128 true (.aload_n 0) 1 (zc 129 true (.getfield 29) 3 (zc 132 true (.getfield 344) 3 (zc 135 true (.ireturn) 1 (zc 136 true (.aload_n 0) 1 (zc 137 true (.getfield 36) 3 (zc 140 true (.getfield 354) 3 (zc 143 true (.ireturn) 1 (zc 144 true (.aload_n 0) 1 (zc 145 true (.getfield 36) 3 (zc 148 true (.getfield 360) 3 (zc 151 true (.ireturn) 1 (zc 152 true (.aload_n 0) 1 (zc 153 true (.getfield 22) 3 (zc 156 true (.getfield 68) 3 (zc 159 true (.ireturn) 1 (zc 160 true (.iconst (-1)) 1 (zc 161 true (.ireturn) 1 ([]))))))))))))))))))))))))))))))))))))))))))))))))))))
theorem zrX10_size_0_ok : zck 0 ((zby cX10_size).drop 0) zrX10_size_0 = true := by decide +kernel
theorem dX10_size_1 : decode cX10_size 1 = .ok (.tableswitch 159 0 11 #[63, 71, 79, 87, 95, 103, 111, 119, 127, 135, 143, 151], 63) := by decide +kernel
def vfX10_size : List Cond := List.cons (.code yX10_size cX10_size 2 (some .int)) (apW [.fieldLink RX10 10 "HookPier" "plan" "LHookPier$Plan;", .fieldLink RX10 233 "HookPier$Plan" "spots" "I", .fieldLink RX10 378 "HookPier$Plan" "deep" "I", .fieldLink RX10 224 "HookPier$Plan" "baits" "I", .fieldLink RX10 246 "HookPier$Plan" "askers" "I", .fieldLink RX10 96 "HookPier$Plan" "answers" "I", .fieldLink RX10 284 "HookPier$Plan" "bites" "I", .fieldLink RX10 29 "HookPier" "now" "LHookPier$Now;", .fieldLink RX10 134 "HookPier$Now" "today" "I", .fieldLink RX10 351 "HookPier$Now" "seedNow" "I", .fieldLink RX10 344 "HookPier$Now" "soldFor" "I", .fieldLink RX10 36 "HookPier" "history" "LHookPier$History;", .fieldLink RX10 354 "HookPier$History" "acts" "I", .fieldLink RX10 360 "HookPier$History" "marks" "I", .fieldLink RX10 22 "HookPier" "reader" "LHookPier$Reader;", .fieldLink RX10 68 "HookPier$Reader" "fed" "I"] (apW wsX100 (apW wsX60 (apW wsX40 (apW wsX20 (wsX70))))))
theorem ifX10_size_X10 : ∀ w ∈ wsX100, w ∈ vfX10_size := fun _ h => (List.mem_cons_of_mem _ (List.mem_append_right _ (List.mem_append_left _ h)))
theorem ifX10_size_X6 : ∀ w ∈ wsX60, w ∈ vfX10_size := fun _ h => (List.mem_cons_of_mem _ (List.mem_append_right _ (List.mem_append_right _ (List.mem_append_left _ h))))
theorem ifX10_size_X4 : ∀ w ∈ wsX40, w ∈ vfX10_size := fun _ h => (List.mem_cons_of_mem _ (List.mem_append_right _ (List.mem_append_right _ (List.mem_append_right _ (List.mem_append_left _ h)))))
theorem ifX10_size_X2 : ∀ w ∈ wsX20, w ∈ vfX10_size := fun _ h => (List.mem_cons_of_mem _ (List.mem_append_right _ (List.mem_append_right _ (List.mem_append_right _ (List.mem_append_right _ (List.mem_append_left _ h))))))
theorem ifX10_size_X7 : ∀ w ∈ wsX70, w ∈ vfX10_size := fun _ h => (List.mem_cons_of_mem _ (List.mem_append_right _ (List.mem_append_right _ (List.mem_append_right _ (List.mem_append_right _ (List.mem_append_right _ h))))))
theorem qfX10_size : Good vfX10_size := gd_cons (by decide +kernel) (gd_app (gd_dec (by decide +kernel) : Good [.fieldLink RX10 10 "HookPier" "plan" "LHookPier$Plan;", .fieldLink RX10 233 "HookPier$Plan" "spots" "I", .fieldLink RX10 378 "HookPier$Plan" "deep" "I", .fieldLink RX10 224 "HookPier$Plan" "baits" "I", .fieldLink RX10 246 "HookPier$Plan" "askers" "I", .fieldLink RX10 96 "HookPier$Plan" "answers" "I", .fieldLink RX10 284 "HookPier$Plan" "bites" "I", .fieldLink RX10 29 "HookPier" "now" "LHookPier$Now;", .fieldLink RX10 134 "HookPier$Now" "today" "I", .fieldLink RX10 351 "HookPier$Now" "seedNow" "I", .fieldLink RX10 344 "HookPier$Now" "soldFor" "I", .fieldLink RX10 36 "HookPier" "history" "LHookPier$History;", .fieldLink RX10 354 "HookPier$History" "acts" "I", .fieldLink RX10 360 "HookPier$History" "marks" "I", .fieldLink RX10 22 "HookPier" "reader" "LHookPier$Reader;", .fieldLink RX10 68 "HookPier$Reader" "fed" "I"]) (gd_app qsX10 (gd_app qsX6 (gd_app qsX4 (gd_app qsX2 qsX7)))))
set_option maxHeartbeats 2000000 in
set_option maxRecDepth 100000 in
theorem kfX10_size (l : Launch) (dC : Nat → ClassId) (dI : Nat → Nat → Nat) (a0 : Nat) (k1 : Int32) (a2 : Nat) (a3 : Nat) (a4 : Nat) (a5 : Nat) (up : Nat → Nat) (kp : Nat → ClassId) (ur : Nat → Nat) (kr : Nat → ClassId) (un : Nat → Nat) (kn : Nat → ClassId) (g12 : Value) (g13 : Value) (g14 : Value) (g15 : Value) (g16 : Value) (g17 : Value) (p_p : TX6_p) (r_r : TX7_r) (n_n : TX4_n) (h_h : TX2_h) (g22 : Value) (g23 : Value) (sz : Nat) (out : Int32) (h : f_X10_size k1 p_p r_r n_n h_h = out) : KDi l yX10_size vfX10_size ({ frames := 0, cells := 0, slots := 0, locals := 0 }) (dC, dI) [.ref a0, .int k1] sz ((a0, .inr (7, [.ref a2, g12, .ref a3, .ref a4, .ref a5, g13, g14, g15, g16, g17])) :: bX6 a2 up kp p_p (bX7 a3 ur kr r_r (bX4 a4 un kn n_n ([(a5, .inr (2, [g22, g23, .int h_h.1, .int h_h.2.1, .int h_h.2.2]))])))) (tX6 kp (tX7 kr (tX4 kn ([])))) (fun (r : Int32) _ => r = out) 0 0 := by
  refine Met.ofW (cc := cX10_size) (maxL := 2) (ret := (some .int)) (by decide) rfl ?_
  intro p e s m args below meth c s₁ B0 hml hv
  obtain ⟨rfl, hsz, hP, hK, hD0, hN⟩ := hv
  have hx := B0.exec
  have hb := B0.bytes
  have hr := B0.returns
  have hts := atoms_spec (ws := vfX10_size) B0.pre
  have hown : s.vm.findClass RX10 = some m.cls := findClass_of_methodNamed B0.named
  have hlocks := B0.notSynchronized
  subst hsz
  have hD := hD0.self (sz := s.heap.size)
  generalize hAe : va_A ((a0, .inr (7, [.ref a2, g12, .ref a3, .ref a4, .ref a5, g13, g14, g15, g16, g17])) :: bX6 a2 up kp p_p (bX7 a3 ur kr r_r (bX4 a4 un kn n_n ([(a5, .inr (2, [g22, g23, .int h_h.1, .int h_h.2.1, .int h_h.2.2]))])))) s.heap.size = A at hD ⊢
  have hA : ∀ q : Nat, s.heap.size ≤ q → A q := fun q h => by rw [← hAe]; exact Or.inr h
  have hS : va_S A s.heap s.heap [] := va_S.rf
  have hP : va_P (dC, dI) vwCl ((a0, .inr (7, [.ref a2, g12, .ref a3, .ref a4, .ref a5, g13, g14, g15, g16, g17])) :: bX6 a2 up kp p_p (bX7 a3 ur kr r_r (bX4 a4 un kn n_n ([(a5, .inr (2, [g22, g23, .int h_h.1, .int h_h.2.1, .int h_h.2.2]))])))) s.heap := hP
  have hl := lv_entry ([.ref a0, .int k1]) (n := 2) (Nat.le_of_ble_eq_true rfl)
  rw [lg_entry_eq]
  generalize (lg_sl ([.ref a0, .int k1]) ++ List.replicate (2 - (lg_sl ([.ref a0, .int k1])).length) Slot.unset).toArray = ls at hl ⊢
  have hl : lv_has ls 2 [(0, .ref a0), (1, .int k1)] := hl
  refine W_q (fun QQ hQQ => ?_)
  rw [f_X10_size] at h
  refine lv_iload_n hx hb (zat zrX10_size_0_ok 0 rfl) rfl (lv_at hl 1 rfl) ?_
  by_cases c1_0 : k1 = 0
  · have h := (if_pos c1_0).symm.trans h
    refine lv_tableIn (tgt := 64) hx hb dX10_size_1 (by rw [c1_0] <;> decide) (by rw [c1_0] <;> decide) (by rw [c1_0] <;> rfl) (by decide) ?_
    refine lv_aload_n hx hb (zat zrX10_size_0_ok 2 rfl) rfl (lv_at hl 0 rfl) ?_
    refine va_get (D := (dC, dI)) (ci := 7) (v := .ref a2) (C := RX10) (T := TX10) (N := 10) hx hb hts ifX10_size_X10 hown hK hP 0 rfl rfl 0 (by decide) (hts (.fieldLink RX10 10 "HookPier" "plan" "LHookPier$Plan;") (List.mem_of_getElem? (i := 1) rfl)) (fun _ h9 => h9) rfl (zat zrX10_size_0_ok 3 rfl) ?_
    refine va_get (D := (dC, dI)) (ci := 4) (v := .int p_p.1) (C := RX6) (T := TX6) (N := 18) hx hb hts ifX10_size_X6 hown hK hP 1 rfl rfl 0 (by decide) (hts (.fieldLink RX10 233 "HookPier$Plan" "spots" "I") (List.mem_of_getElem? (i := 2) rfl)) (fun _ h9 => h9) rfl (zat zrX10_size_0_ok 4 rfl) ?_
    obtain rfl := h
    obtain ⟨hP9, hD9⟩ := pd_sub ((a0, .inr (7, [.ref a2, g12, .ref a3, .ref a4, .ref a5, g13, g14, g15, g16, g17])) :: bX6 a2 up kp p_p (bX7 a3 ur kr r_r (bX4 a4 un kn n_n ([(a5, .inr (2, [g22, g23, .int h_h.1, .int h_h.2.1, .int h_h.2.2]))])))) [0, 1, 2, 3, 4, 5, 6, 7, 8, 9, 10, 11, 12, 13, 14, 15, 16, 17, 18, 19, 20] hP hD (by decide) rfl
    have hK9 := hK.sub (tys' := []) [] rfl
    rw [hQQ]
    exact W.iret (v := p_p.1) hx hb hr (fun t ht hW => ⟨⟨p_p.1, (), rfl, rfl, by rw [ht]; exact hP9, va_K.moved hW.alike hK9, hD9⟩, hS.F ht⟩) hS.2.2 (zat zrX10_size_0_ok 5 rfl)
  have h := (if_neg c1_0).symm.trans h
  by_cases c1_1 : k1 = 1
  · have h := (if_pos c1_1).symm.trans h
    refine lv_tableIn (tgt := 72) hx hb dX10_size_1 (by rw [c1_1] <;> decide) (by rw [c1_1] <;> decide) (by rw [c1_1] <;> rfl) (by decide) ?_
    refine lv_aload_n hx hb (zat zrX10_size_0_ok 6 rfl) rfl (lv_at hl 0 rfl) ?_
    refine va_get (D := (dC, dI)) (ci := 7) (v := .ref a2) (C := RX10) (T := TX10) (N := 10) hx hb hts ifX10_size_X10 hown hK hP 0 rfl rfl 0 (by decide) (hts (.fieldLink RX10 10 "HookPier" "plan" "LHookPier$Plan;") (List.mem_of_getElem? (i := 1) rfl)) (fun _ h9 => h9) rfl (zat zrX10_size_0_ok 7 rfl) ?_
    refine va_get (D := (dC, dI)) (ci := 4) (v := .int p_p.2.1) (C := RX6) (T := TX6) (N := 18) hx hb hts ifX10_size_X6 hown hK hP 1 rfl rfl 1 (by decide) (hts (.fieldLink RX10 378 "HookPier$Plan" "deep" "I") (List.mem_of_getElem? (i := 3) rfl)) (fun _ h9 => h9) rfl (zat zrX10_size_0_ok 8 rfl) ?_
    obtain rfl := h
    obtain ⟨hP9, hD9⟩ := pd_sub ((a0, .inr (7, [.ref a2, g12, .ref a3, .ref a4, .ref a5, g13, g14, g15, g16, g17])) :: bX6 a2 up kp p_p (bX7 a3 ur kr r_r (bX4 a4 un kn n_n ([(a5, .inr (2, [g22, g23, .int h_h.1, .int h_h.2.1, .int h_h.2.2]))])))) [0, 1, 2, 3, 4, 5, 6, 7, 8, 9, 10, 11, 12, 13, 14, 15, 16, 17, 18, 19, 20] hP hD (by decide) rfl
    have hK9 := hK.sub (tys' := []) [] rfl
    rw [hQQ]
    exact W.iret (v := p_p.2.1) hx hb hr (fun t ht hW => ⟨⟨p_p.2.1, (), rfl, rfl, by rw [ht]; exact hP9, va_K.moved hW.alike hK9, hD9⟩, hS.F ht⟩) hS.2.2 (zat zrX10_size_0_ok 9 rfl)
  have h := (if_neg c1_1).symm.trans h
  by_cases c1_2 : k1 = 2
  · have h := (if_pos c1_2).symm.trans h
    refine lv_tableIn (tgt := 80) hx hb dX10_size_1 (by rw [c1_2] <;> decide) (by rw [c1_2] <;> decide) (by rw [c1_2] <;> rfl) (by decide) ?_
    refine lv_aload_n hx hb (zat zrX10_size_0_ok 10 rfl) rfl (lv_at hl 0 rfl) ?_
    refine va_get (D := (dC, dI)) (ci := 7) (v := .ref a2) (C := RX10) (T := TX10) (N := 10) hx hb hts ifX10_size_X10 hown hK hP 0 rfl rfl 0 (by decide) (hts (.fieldLink RX10 10 "HookPier" "plan" "LHookPier$Plan;") (List.mem_of_getElem? (i := 1) rfl)) (fun _ h9 => h9) rfl (zat zrX10_size_0_ok 11 rfl) ?_
    refine va_get (D := (dC, dI)) (ci := 4) (v := .int p_p.2.2.2.2.1) (C := RX6) (T := TX6) (N := 18) hx hb hts ifX10_size_X6 hown hK hP 1 rfl rfl 4 (by decide) (hts (.fieldLink RX10 224 "HookPier$Plan" "baits" "I") (List.mem_of_getElem? (i := 4) rfl)) (fun _ h9 => h9) rfl (zat zrX10_size_0_ok 12 rfl) ?_
    obtain rfl := h
    obtain ⟨hP9, hD9⟩ := pd_sub ((a0, .inr (7, [.ref a2, g12, .ref a3, .ref a4, .ref a5, g13, g14, g15, g16, g17])) :: bX6 a2 up kp p_p (bX7 a3 ur kr r_r (bX4 a4 un kn n_n ([(a5, .inr (2, [g22, g23, .int h_h.1, .int h_h.2.1, .int h_h.2.2]))])))) [0, 1, 2, 3, 4, 5, 6, 7, 8, 9, 10, 11, 12, 13, 14, 15, 16, 17, 18, 19, 20] hP hD (by decide) rfl
    have hK9 := hK.sub (tys' := []) [] rfl
    rw [hQQ]
    exact W.iret (v := p_p.2.2.2.2.1) hx hb hr (fun t ht hW => ⟨⟨p_p.2.2.2.2.1, (), rfl, rfl, by rw [ht]; exact hP9, va_K.moved hW.alike hK9, hD9⟩, hS.F ht⟩) hS.2.2 (zat zrX10_size_0_ok 13 rfl)
  have h := (if_neg c1_2).symm.trans h
  by_cases c1_3 : k1 = 3
  · have h := (if_pos c1_3).symm.trans h
    refine lv_tableIn (tgt := 88) hx hb dX10_size_1 (by rw [c1_3] <;> decide) (by rw [c1_3] <;> decide) (by rw [c1_3] <;> rfl) (by decide) ?_
    refine lv_aload_n hx hb (zat zrX10_size_0_ok 14 rfl) rfl (lv_at hl 0 rfl) ?_
    refine va_get (D := (dC, dI)) (ci := 7) (v := .ref a2) (C := RX10) (T := TX10) (N := 10) hx hb hts ifX10_size_X10 hown hK hP 0 rfl rfl 0 (by decide) (hts (.fieldLink RX10 10 "HookPier" "plan" "LHookPier$Plan;") (List.mem_of_getElem? (i := 1) rfl)) (fun _ h9 => h9) rfl (zat zrX10_size_0_ok 15 rfl) ?_
    refine va_get (D := (dC, dI)) (ci := 4) (v := .int p_p.2.2.2.2.2.1) (C := RX6) (T := TX6) (N := 18) hx hb hts ifX10_size_X6 hown hK hP 1 rfl rfl 5 (by decide) (hts (.fieldLink RX10 246 "HookPier$Plan" "askers" "I") (List.mem_of_getElem? (i := 5) rfl)) (fun _ h9 => h9) rfl (zat zrX10_size_0_ok 16 rfl) ?_
    obtain rfl := h
    obtain ⟨hP9, hD9⟩ := pd_sub ((a0, .inr (7, [.ref a2, g12, .ref a3, .ref a4, .ref a5, g13, g14, g15, g16, g17])) :: bX6 a2 up kp p_p (bX7 a3 ur kr r_r (bX4 a4 un kn n_n ([(a5, .inr (2, [g22, g23, .int h_h.1, .int h_h.2.1, .int h_h.2.2]))])))) [0, 1, 2, 3, 4, 5, 6, 7, 8, 9, 10, 11, 12, 13, 14, 15, 16, 17, 18, 19, 20] hP hD (by decide) rfl
    have hK9 := hK.sub (tys' := []) [] rfl
    rw [hQQ]
    exact W.iret (v := p_p.2.2.2.2.2.1) hx hb hr (fun t ht hW => ⟨⟨p_p.2.2.2.2.2.1, (), rfl, rfl, by rw [ht]; exact hP9, va_K.moved hW.alike hK9, hD9⟩, hS.F ht⟩) hS.2.2 (zat zrX10_size_0_ok 17 rfl)
  have h := (if_neg c1_3).symm.trans h
  by_cases c1_4 : k1 = 4
  · have h := (if_pos c1_4).symm.trans h
    refine lv_tableIn (tgt := 96) hx hb dX10_size_1 (by rw [c1_4] <;> decide) (by rw [c1_4] <;> decide) (by rw [c1_4] <;> rfl) (by decide) ?_
    refine lv_aload_n hx hb (zat zrX10_size_0_ok 18 rfl) rfl (lv_at hl 0 rfl) ?_
    refine va_get (D := (dC, dI)) (ci := 7) (v := .ref a2) (C := RX10) (T := TX10) (N := 10) hx hb hts ifX10_size_X10 hown hK hP 0 rfl rfl 0 (by decide) (hts (.fieldLink RX10 10 "HookPier" "plan" "LHookPier$Plan;") (List.mem_of_getElem? (i := 1) rfl)) (fun _ h9 => h9) rfl (zat zrX10_size_0_ok 19 rfl) ?_
    refine va_get (D := (dC, dI)) (ci := 4) (v := .int p_p.2.2.2.2.2.2.1) (C := RX6) (T := TX6) (N := 18) hx hb hts ifX10_size_X6 hown hK hP 1 rfl rfl 6 (by decide) (hts (.fieldLink RX10 96 "HookPier$Plan" "answers" "I") (List.mem_of_getElem? (i := 6) rfl)) (fun _ h9 => h9) rfl (zat zrX10_size_0_ok 20 rfl) ?_
    obtain rfl := h
    obtain ⟨hP9, hD9⟩ := pd_sub ((a0, .inr (7, [.ref a2, g12, .ref a3, .ref a4, .ref a5, g13, g14, g15, g16, g17])) :: bX6 a2 up kp p_p (bX7 a3 ur kr r_r (bX4 a4 un kn n_n ([(a5, .inr (2, [g22, g23, .int h_h.1, .int h_h.2.1, .int h_h.2.2]))])))) [0, 1, 2, 3, 4, 5, 6, 7, 8, 9, 10, 11, 12, 13, 14, 15, 16, 17, 18, 19, 20] hP hD (by decide) rfl
    have hK9 := hK.sub (tys' := []) [] rfl
    rw [hQQ]
    exact W.iret (v := p_p.2.2.2.2.2.2.1) hx hb hr (fun t ht hW => ⟨⟨p_p.2.2.2.2.2.2.1, (), rfl, rfl, by rw [ht]; exact hP9, va_K.moved hW.alike hK9, hD9⟩, hS.F ht⟩) hS.2.2 (zat zrX10_size_0_ok 21 rfl)
  have h := (if_neg c1_4).symm.trans h
  by_cases c1_5 : k1 = 5
  · have h := (if_pos c1_5).symm.trans h
    refine lv_tableIn (tgt := 104) hx hb dX10_size_1 (by rw [c1_5] <;> decide) (by rw [c1_5] <;> decide) (by rw [c1_5] <;> rfl) (by decide) ?_
    refine lv_aload_n hx hb (zat zrX10_size_0_ok 22 rfl) rfl (lv_at hl 0 rfl) ?_
    refine va_get (D := (dC, dI)) (ci := 7) (v := .ref a2) (C := RX10) (T := TX10) (N := 10) hx hb hts ifX10_size_X10 hown hK hP 0 rfl rfl 0 (by decide) (hts (.fieldLink RX10 10 "HookPier" "plan" "LHookPier$Plan;") (List.mem_of_getElem? (i := 1) rfl)) (fun _ h9 => h9) rfl (zat zrX10_size_0_ok 23 rfl) ?_
    refine va_get (D := (dC, dI)) (ci := 4) (v := .int p_p.2.2.2.2.2.2.2.1) (C := RX6) (T := TX6) (N := 18) hx hb hts ifX10_size_X6 hown hK hP 1 rfl rfl 7 (by decide) (hts (.fieldLink RX10 284 "HookPier$Plan" "bites" "I") (List.mem_of_getElem? (i := 7) rfl)) (fun _ h9 => h9) rfl (zat zrX10_size_0_ok 24 rfl) ?_
    obtain rfl := h
    obtain ⟨hP9, hD9⟩ := pd_sub ((a0, .inr (7, [.ref a2, g12, .ref a3, .ref a4, .ref a5, g13, g14, g15, g16, g17])) :: bX6 a2 up kp p_p (bX7 a3 ur kr r_r (bX4 a4 un kn n_n ([(a5, .inr (2, [g22, g23, .int h_h.1, .int h_h.2.1, .int h_h.2.2]))])))) [0, 1, 2, 3, 4, 5, 6, 7, 8, 9, 10, 11, 12, 13, 14, 15, 16, 17, 18, 19, 20] hP hD (by decide) rfl
    have hK9 := hK.sub (tys' := []) [] rfl
    rw [hQQ]
    exact W.iret (v := p_p.2.2.2.2.2.2.2.1) hx hb hr (fun t ht hW => ⟨⟨p_p.2.2.2.2.2.2.2.1, (), rfl, rfl, by rw [ht]; exact hP9, va_K.moved hW.alike hK9, hD9⟩, hS.F ht⟩) hS.2.2 (zat zrX10_size_0_ok 25 rfl)
  have h := (if_neg c1_5).symm.trans h
  by_cases c1_6 : k1 = 6
  · have h := (if_pos c1_6).symm.trans h
    refine lv_tableIn (tgt := 112) hx hb dX10_size_1 (by rw [c1_6] <;> decide) (by rw [c1_6] <;> decide) (by rw [c1_6] <;> rfl) (by decide) ?_
    refine lv_aload_n hx hb (zat zrX10_size_0_ok 26 rfl) rfl (lv_at hl 0 rfl) ?_
    refine va_get (D := (dC, dI)) (ci := 7) (v := .ref a4) (C := RX10) (T := TX10) (N := 10) hx hb hts ifX10_size_X10 hown hK hP 0 rfl rfl 3 (by decide) (hts (.fieldLink RX10 29 "HookPier" "now" "LHookPier$Now;") (List.mem_of_getElem? (i := 8) rfl)) (fun _ h9 => h9) rfl (zat zrX10_size_0_ok 27 rfl) ?_
    refine va_get (D := (dC, dI)) (ci := 3) (v := .int n_n.1) (C := RX4) (T := TX4) (N := 7) hx hb hts ifX10_size_X4 hown hK hP 15 rfl rfl 0 (by decide) (hts (.fieldLink RX10 134 "HookPier$Now" "today" "I") (List.mem_of_getElem? (i := 9) rfl)) (fun _ h9 => h9) rfl (zat zrX10_size_0_ok 28 rfl) ?_
    obtain rfl := h
    obtain ⟨hP9, hD9⟩ := pd_sub ((a0, .inr (7, [.ref a2, g12, .ref a3, .ref a4, .ref a5, g13, g14, g15, g16, g17])) :: bX6 a2 up kp p_p (bX7 a3 ur kr r_r (bX4 a4 un kn n_n ([(a5, .inr (2, [g22, g23, .int h_h.1, .int h_h.2.1, .int h_h.2.2]))])))) [0, 1, 2, 3, 4, 5, 6, 7, 8, 9, 10, 11, 12, 13, 14, 15, 16, 17, 18, 19, 20] hP hD (by decide) rfl
    have hK9 := hK.sub (tys' := []) [] rfl
    rw [hQQ]
    exact W.iret (v := n_n.1) hx hb hr (fun t ht hW => ⟨⟨n_n.1, (), rfl, rfl, by rw [ht]; exact hP9, va_K.moved hW.alike hK9, hD9⟩, hS.F ht⟩) hS.2.2 (zat zrX10_size_0_ok 29 rfl)
  have h := (if_neg c1_6).symm.trans h
  by_cases c1_7 : k1 = 7
  · have h := (if_pos c1_7).symm.trans h
    refine lv_tableIn (tgt := 120) hx hb dX10_size_1 (by rw [c1_7] <;> decide) (by rw [c1_7] <;> decide) (by rw [c1_7] <;> rfl) (by decide) ?_
    refine lv_aload_n hx hb (zat zrX10_size_0_ok 30 rfl) rfl (lv_at hl 0 rfl) ?_
    refine va_get (D := (dC, dI)) (ci := 7) (v := .ref a4) (C := RX10) (T := TX10) (N := 10) hx hb hts ifX10_size_X10 hown hK hP 0 rfl rfl 3 (by decide) (hts (.fieldLink RX10 29 "HookPier" "now" "LHookPier$Now;") (List.mem_of_getElem? (i := 8) rfl)) (fun _ h9 => h9) rfl (zat zrX10_size_0_ok 31 rfl) ?_
    refine va_get (D := (dC, dI)) (ci := 3) (v := .int n_n.2.1) (C := RX4) (T := TX4) (N := 7) hx hb hts ifX10_size_X4 hown hK hP 15 rfl rfl 1 (by decide) (hts (.fieldLink RX10 351 "HookPier$Now" "seedNow" "I") (List.mem_of_getElem? (i := 10) rfl)) (fun _ h9 => h9) rfl (zat zrX10_size_0_ok 32 rfl) ?_
    obtain rfl := h
    obtain ⟨hP9, hD9⟩ := pd_sub ((a0, .inr (7, [.ref a2, g12, .ref a3, .ref a4, .ref a5, g13, g14, g15, g16, g17])) :: bX6 a2 up kp p_p (bX7 a3 ur kr r_r (bX4 a4 un kn n_n ([(a5, .inr (2, [g22, g23, .int h_h.1, .int h_h.2.1, .int h_h.2.2]))])))) [0, 1, 2, 3, 4, 5, 6, 7, 8, 9, 10, 11, 12, 13, 14, 15, 16, 17, 18, 19, 20] hP hD (by decide) rfl
    have hK9 := hK.sub (tys' := []) [] rfl
    rw [hQQ]
    exact W.iret (v := n_n.2.1) hx hb hr (fun t ht hW => ⟨⟨n_n.2.1, (), rfl, rfl, by rw [ht]; exact hP9, va_K.moved hW.alike hK9, hD9⟩, hS.F ht⟩) hS.2.2 (zat zrX10_size_0_ok 33 rfl)
  have h := (if_neg c1_7).symm.trans h
  by_cases c1_8 : k1 = 8
  · have h := (if_pos c1_8).symm.trans h
    refine lv_tableIn (tgt := 128) hx hb dX10_size_1 (by rw [c1_8] <;> decide) (by rw [c1_8] <;> decide) (by rw [c1_8] <;> rfl) (by decide) ?_
    refine lv_aload_n hx hb (zat zrX10_size_0_ok 34 rfl) rfl (lv_at hl 0 rfl) ?_
    refine va_get (D := (dC, dI)) (ci := 7) (v := .ref a4) (C := RX10) (T := TX10) (N := 10) hx hb hts ifX10_size_X10 hown hK hP 0 rfl rfl 3 (by decide) (hts (.fieldLink RX10 29 "HookPier" "now" "LHookPier$Now;") (List.mem_of_getElem? (i := 8) rfl)) (fun _ h9 => h9) rfl (zat zrX10_size_0_ok 35 rfl) ?_
    refine va_get (D := (dC, dI)) (ci := 3) (v := .int n_n.2.2.1) (C := RX4) (T := TX4) (N := 7) hx hb hts ifX10_size_X4 hown hK hP 15 rfl rfl 2 (by decide) (hts (.fieldLink RX10 344 "HookPier$Now" "soldFor" "I") (List.mem_of_getElem? (i := 11) rfl)) (fun _ h9 => h9) rfl (zat zrX10_size_0_ok 36 rfl) ?_
    obtain rfl := h
    obtain ⟨hP9, hD9⟩ := pd_sub ((a0, .inr (7, [.ref a2, g12, .ref a3, .ref a4, .ref a5, g13, g14, g15, g16, g17])) :: bX6 a2 up kp p_p (bX7 a3 ur kr r_r (bX4 a4 un kn n_n ([(a5, .inr (2, [g22, g23, .int h_h.1, .int h_h.2.1, .int h_h.2.2]))])))) [0, 1, 2, 3, 4, 5, 6, 7, 8, 9, 10, 11, 12, 13, 14, 15, 16, 17, 18, 19, 20] hP hD (by decide) rfl
    have hK9 := hK.sub (tys' := []) [] rfl
    rw [hQQ]
    exact W.iret (v := n_n.2.2.1) hx hb hr (fun t ht hW => ⟨⟨n_n.2.2.1, (), rfl, rfl, by rw [ht]; exact hP9, va_K.moved hW.alike hK9, hD9⟩, hS.F ht⟩) hS.2.2 (zat zrX10_size_0_ok 37 rfl)
  have h := (if_neg c1_8).symm.trans h
  by_cases c1_9 : k1 = 9
  · have h := (if_pos c1_9).symm.trans h
    refine lv_tableIn (tgt := 136) hx hb dX10_size_1 (by rw [c1_9] <;> decide) (by rw [c1_9] <;> decide) (by rw [c1_9] <;> rfl) (by decide) ?_
    refine lv_aload_n hx hb (zat zrX10_size_0_ok 38 rfl) rfl (lv_at hl 0 rfl) ?_
    refine va_get (D := (dC, dI)) (ci := 7) (v := .ref a5) (C := RX10) (T := TX10) (N := 10) hx hb hts ifX10_size_X10 hown hK hP 0 rfl rfl 4 (by decide) (hts (.fieldLink RX10 36 "HookPier" "history" "LHookPier$History;") (List.mem_of_getElem? (i := 12) rfl)) (fun _ h9 => h9) rfl (zat zrX10_size_0_ok 39 rfl) ?_
    refine va_get (D := (dC, dI)) (ci := 2) (v := .int h_h.2.1) (C := RX2) (T := TX2) (N := 5) hx hb hts ifX10_size_X2 hown hK hP 20 rfl rfl 3 (by decide) (hts (.fieldLink RX10 354 "HookPier$History" "acts" "I") (List.mem_of_getElem? (i := 13) rfl)) (fun _ h9 => h9) rfl (zat zrX10_size_0_ok 40 rfl) ?_
    obtain rfl := h
    obtain ⟨hP9, hD9⟩ := pd_sub ((a0, .inr (7, [.ref a2, g12, .ref a3, .ref a4, .ref a5, g13, g14, g15, g16, g17])) :: bX6 a2 up kp p_p (bX7 a3 ur kr r_r (bX4 a4 un kn n_n ([(a5, .inr (2, [g22, g23, .int h_h.1, .int h_h.2.1, .int h_h.2.2]))])))) [0, 1, 2, 3, 4, 5, 6, 7, 8, 9, 10, 11, 12, 13, 14, 15, 16, 17, 18, 19, 20] hP hD (by decide) rfl
    have hK9 := hK.sub (tys' := []) [] rfl
    rw [hQQ]
    exact W.iret (v := h_h.2.1) hx hb hr (fun t ht hW => ⟨⟨h_h.2.1, (), rfl, rfl, by rw [ht]; exact hP9, va_K.moved hW.alike hK9, hD9⟩, hS.F ht⟩) hS.2.2 (zat zrX10_size_0_ok 41 rfl)
  have h := (if_neg c1_9).symm.trans h
  by_cases c1_10 : k1 = 10
  · have h := (if_pos c1_10).symm.trans h
    refine lv_tableIn (tgt := 144) hx hb dX10_size_1 (by rw [c1_10] <;> decide) (by rw [c1_10] <;> decide) (by rw [c1_10] <;> rfl) (by decide) ?_
    refine lv_aload_n hx hb (zat zrX10_size_0_ok 42 rfl) rfl (lv_at hl 0 rfl) ?_
    refine va_get (D := (dC, dI)) (ci := 7) (v := .ref a5) (C := RX10) (T := TX10) (N := 10) hx hb hts ifX10_size_X10 hown hK hP 0 rfl rfl 4 (by decide) (hts (.fieldLink RX10 36 "HookPier" "history" "LHookPier$History;") (List.mem_of_getElem? (i := 12) rfl)) (fun _ h9 => h9) rfl (zat zrX10_size_0_ok 43 rfl) ?_
    refine va_get (D := (dC, dI)) (ci := 2) (v := .int h_h.2.2) (C := RX2) (T := TX2) (N := 5) hx hb hts ifX10_size_X2 hown hK hP 20 rfl rfl 4 (by decide) (hts (.fieldLink RX10 360 "HookPier$History" "marks" "I") (List.mem_of_getElem? (i := 14) rfl)) (fun _ h9 => h9) rfl (zat zrX10_size_0_ok 44 rfl) ?_
    obtain rfl := h
    obtain ⟨hP9, hD9⟩ := pd_sub ((a0, .inr (7, [.ref a2, g12, .ref a3, .ref a4, .ref a5, g13, g14, g15, g16, g17])) :: bX6 a2 up kp p_p (bX7 a3 ur kr r_r (bX4 a4 un kn n_n ([(a5, .inr (2, [g22, g23, .int h_h.1, .int h_h.2.1, .int h_h.2.2]))])))) [0, 1, 2, 3, 4, 5, 6, 7, 8, 9, 10, 11, 12, 13, 14, 15, 16, 17, 18, 19, 20] hP hD (by decide) rfl
    have hK9 := hK.sub (tys' := []) [] rfl
    rw [hQQ]
    exact W.iret (v := h_h.2.2) hx hb hr (fun t ht hW => ⟨⟨h_h.2.2, (), rfl, rfl, by rw [ht]; exact hP9, va_K.moved hW.alike hK9, hD9⟩, hS.F ht⟩) hS.2.2 (zat zrX10_size_0_ok 45 rfl)
  have h := (if_neg c1_10).symm.trans h
  by_cases c1_11 : k1 = 11
  · have h := (if_pos c1_11).symm.trans h
    refine lv_tableIn (tgt := 152) hx hb dX10_size_1 (by rw [c1_11] <;> decide) (by rw [c1_11] <;> decide) (by rw [c1_11] <;> rfl) (by decide) ?_
    refine lv_aload_n hx hb (zat zrX10_size_0_ok 46 rfl) rfl (lv_at hl 0 rfl) ?_
    refine va_get (D := (dC, dI)) (ci := 7) (v := .ref a3) (C := RX10) (T := TX10) (N := 10) hx hb hts ifX10_size_X10 hown hK hP 0 rfl rfl 2 (by decide) (hts (.fieldLink RX10 22 "HookPier" "reader" "LHookPier$Reader;") (List.mem_of_getElem? (i := 15) rfl)) (fun _ h9 => h9) rfl (zat zrX10_size_0_ok 47 rfl) ?_
    refine va_get (D := (dC, dI)) (ci := 5) (v := .int r_r.2.1) (C := RX7) (T := TX7) (N := 12) hx hb hts ifX10_size_X7 hown hK hP 11 rfl rfl 1 (by decide) (hts (.fieldLink RX10 68 "HookPier$Reader" "fed" "I") (List.mem_of_getElem? (i := 16) rfl)) (fun _ h9 => h9) rfl (zat zrX10_size_0_ok 48 rfl) ?_
    obtain rfl := h
    obtain ⟨hP9, hD9⟩ := pd_sub ((a0, .inr (7, [.ref a2, g12, .ref a3, .ref a4, .ref a5, g13, g14, g15, g16, g17])) :: bX6 a2 up kp p_p (bX7 a3 ur kr r_r (bX4 a4 un kn n_n ([(a5, .inr (2, [g22, g23, .int h_h.1, .int h_h.2.1, .int h_h.2.2]))])))) [0, 1, 2, 3, 4, 5, 6, 7, 8, 9, 10, 11, 12, 13, 14, 15, 16, 17, 18, 19, 20] hP hD (by decide) rfl
    have hK9 := hK.sub (tys' := []) [] rfl
    rw [hQQ]
    exact W.iret (v := r_r.2.1) hx hb hr (fun t ht hW => ⟨⟨r_r.2.1, (), rfl, rfl, by rw [ht]; exact hP9, va_K.moved hW.alike hK9, hD9⟩, hS.F ht⟩) hS.2.2 (zat zrX10_size_0_ok 49 rfl)
  have h := (if_neg c1_11).symm.trans h
  refine lv_tableOut (tgt := 160) hx hb dX10_size_1 (by simp only [fa_eq, ltv_0, ltv_1, ltv_2, ltv_3, ltv_4, ltv_5, ltv_6, ltv_7, ltv_8, ltv_9, ltv_10, ltv_11] at c1_0 c1_1 c1_2 c1_3 c1_4 c1_5 c1_6 c1_7 c1_8 c1_9 c1_10 c1_11; omega) (by decide) ?_
  refine lv_iconst (v := (-1)) hx hb (zat zrX10_size_0_ok 50 rfl) (by decide) ?_
  obtain rfl := h
  obtain ⟨hP9, hD9⟩ := pd_sub ((a0, .inr (7, [.ref a2, g12, .ref a3, .ref a4, .ref a5, g13, g14, g15, g16, g17])) :: bX6 a2 up kp p_p (bX7 a3 ur kr r_r (bX4 a4 un kn n_n ([(a5, .inr (2, [g22, g23, .int h_h.1, .int h_h.2.1, .int h_h.2.2]))])))) [0, 1, 2, 3, 4, 5, 6, 7, 8, 9, 10, 11, 12, 13, 14, 15, 16, 17, 18, 19, 20] hP hD (by decide) rfl
  have hK9 := hK.sub (tys' := []) [] rfl
  rw [hQQ]
  exact W.iret (v := (-1 : Int32)) hx hb hr (fun t ht hW => ⟨⟨(-1 : Int32), (), rfl, rfl, by rw [ht]; exact hP9, va_K.moved hW.alike hK9, hD9⟩, hS.F ht⟩) hS.2.2 (zat zrX10_size_0_ok 51 rfl)
noncomputable def zrX10_trouble_0 : List ZR := zc 0 true (.aload_n 0) 1 (zc 1 true (.getfield 61) 3 (zc 4 true (.ireturn) 1 ([])))
theorem zrX10_trouble_0_ok : zck 0 ((zby cX10_trouble).drop 0) zrX10_trouble_0 = true := by decide +kernel
def vfX10_trouble : List Cond := List.cons (.code yX10_trouble cX10_trouble 1 (some .int)) (apW [.fieldLink RX10 61 "HookPier" "troubleNow" "I"] (wsX100))
theorem ifX10_trouble_X10 : ∀ w ∈ wsX100, w ∈ vfX10_trouble := fun _ h => (List.mem_cons_of_mem _ (List.mem_append_right _ h))
theorem qfX10_trouble : Good vfX10_trouble := gd_cons (by decide +kernel) (gd_app (gd_dec (by decide +kernel) : Good [.fieldLink RX10 61 "HookPier" "troubleNow" "I"]) qsX10)
set_option maxHeartbeats 2000000 in
set_option maxRecDepth 100000 in
theorem kfX10_trouble (l : Launch) (dC : Nat → ClassId) (dI : Nat → Nat → Nat) (a0 : Nat) (x_x : TX10_x) (g2 : Value) (g3 : Value) (g4 : Value) (g5 : Value) (g6 : Value) (g7 : Value) (g8 : Value) (g9 : Value) (sz : Nat) (out : Int32) (h : f_X10_trouble x_x = out) : KDi l yX10_trouble vfX10_trouble ({ frames := 0, cells := 0, slots := 0, locals := 0 }) (dC, dI) [.ref a0] sz ([(a0, .inr (7, [g2, g3, g4, g5, g6, g7, g8, g9, .int x_x.1, .int x_x.2]))]) ([]) (fun (r : Int32) _ => r = out) 0 0 := by
  refine Met.ofW (cc := cX10_trouble) (maxL := 1) (ret := (some .int)) (by decide) rfl ?_
  intro p e s m args below meth c s₁ B0 hml hv
  obtain ⟨rfl, hsz, hP, hK, hD0, hN⟩ := hv
  have hx := B0.exec
  have hb := B0.bytes
  have hr := B0.returns
  have hts := atoms_spec (ws := vfX10_trouble) B0.pre
  have hown : s.vm.findClass RX10 = some m.cls := findClass_of_methodNamed B0.named
  have hlocks := B0.notSynchronized
  subst hsz
  have hD := hD0.self (sz := s.heap.size)
  generalize hAe : va_A ([(a0, .inr (7, [g2, g3, g4, g5, g6, g7, g8, g9, .int x_x.1, .int x_x.2]))]) s.heap.size = A at hD ⊢
  have hA : ∀ q : Nat, s.heap.size ≤ q → A q := fun q h => by rw [← hAe]; exact Or.inr h
  have hS : va_S A s.heap s.heap [] := va_S.rf
  have hP : va_P (dC, dI) vwCl ([(a0, .inr (7, [g2, g3, g4, g5, g6, g7, g8, g9, .int x_x.1, .int x_x.2]))]) s.heap := hP
  have hl := lv_entry ([.ref a0]) (n := 1) (Nat.le_of_ble_eq_true rfl)
  rw [lg_entry_eq]
  generalize (lg_sl ([.ref a0]) ++ List.replicate (1 - (lg_sl ([.ref a0])).length) Slot.unset).toArray = ls at hl ⊢
  have hl : lv_has ls 1 [(0, .ref a0)] := hl
  refine W_q (fun QQ hQQ => ?_)
  rw [f_X10_trouble] at h
  refine lv_aload_n hx hb (zat zrX10_trouble_0_ok 0 rfl) rfl (lv_at hl 0 rfl) ?_
  refine va_get (D := (dC, dI)) (ci := 7) (v := .int x_x.1) (C := RX10) (T := TX10) (N := 10) hx hb hts ifX10_trouble_X10 hown hK hP 0 rfl rfl 8 (by decide) (hts (.fieldLink RX10 61 "HookPier" "troubleNow" "I") (List.mem_of_getElem? (i := 1) rfl)) (fun _ h9 => h9) rfl (zat zrX10_trouble_0_ok 1 rfl) ?_
  obtain rfl := h
  obtain ⟨hP9, hD9⟩ := pd_sub ([(a0, .inr (7, [g2, g3, g4, g5, g6, g7, g8, g9, .int x_x.1, .int x_x.2]))]) [0] hP hD (by decide) rfl
  have hK9 := hK.sub (tys' := []) [] rfl
  rw [hQQ]
  exact W.iret (v := x_x.1) hx hb hr (fun t ht hW => ⟨⟨x_x.1, (), rfl, rfl, by rw [ht]; exact hP9, va_K.moved hW.alike hK9, hD9⟩, hS.F ht⟩) hS.2.2 (zat zrX10_trouble_0_ok 2 rfl)
noncomputable def zrX10_pier_0 : List ZR := zc 0 true (.aload_n 0) 1 (zc 1 true (.iload_n 1) 1 (zc 2 true (.iconst 0) 1 (zc 3 true (.aload_n 0) 1 (zc 4 true (.getfield 22) 3 (zc 7 true (.getfield 68) 3 (zc 10 true (.invokestatic 75) 3 (zc 13 true (.ifCond .eq 7) 3 (zc 16 true (.iconst 0) 1 (zc 17 true (.goto 4) 3 (zc 20 true (.iconst 2) 1 (zc 21 true (.invokevirtual 79) 3 (zc 24 true (.ifCond .eq 5) 3 (zc 27 true (.iconst (-1)) 1 (zc 28 true (.ireturn) 1 (zc 29 true (.aload_n 0) 1 (zc 30 true (.getfield 22) 3 (zc 33 true (.iload_n 1) 1 (zc 34 true (.aload_n 0) 1 (zc 35 true (.getfield 16) 3 (zc 38 true (.invokevirtual 83) 3 (zc 41 true (.istore_n 2) 1 (zc 42 true (.aload_n 0) 1 (zc 43 true (.aload_n 0) 1 (zc 44 true (.getfield 22) 3 (zc 47 true (.getfield 87) 3 (zc 50 true (.putfield 65) 3 (zc 53 true (.aload_n 0) 1 (zc 54 true (.iload_n 2) 1 (zc 55 true (.ifCond .eq 7) 3 (zc 58 true (.iconst 0) 1 (zc 59 true (.goto 4) 3 (zc 62 true (.iconst 4) 1 (zc 63 true (.invokevirtual 79) 3 (zc 66 true (.ifCond .eq 5) 3 (zc 69 true (.iconst (-1)) 1 (zc 70 true (.ireturn) 1 (zc 71 true (.aload_n 0) 1 (zc 72 true (.getfield 10) 3 (zc 75 true (.astore_n 3) 1 (zc 76 true (.aload_n 0) 1 (zc 77 true (.aload_n 0) 1 (zc 78 true (.getfield 16) 3 (zc 81 true (.putfield 10) 3 (zc 84 true (.aload_n 0) 1 (zc 85 true (.aload_n 3) 1 (zc 86 true (.putfield 16) 3 (zc 89 true (.aload_n 0) 1 (zc 90 true (.getfield 29) 3 (zc 93 true (.invokevirtual 90) 3 (zc 96 true (.aload_n 0) 1 (zc 97 true (.getfield 36) 3 (zc 100 true (.invokevirtual 93) 3 (zc 103 true (.aload_n 0) 1 (zc 104 true (.getfield 10) 3 (zc 107 true (.getfield 96) 3 (zc 110 true (.ireturn) 1 ([])))))))))))))))))))))))))))))))))))))))))))))))))))))))))
theorem zrX10_pier_0_ok : zck 0 ((zby cX10_pier).drop 0) zrX10_pier_0 = true := by decide +kernel
def vfX10_pier : List Cond := List.cons (.code yX10_pier cX10_pier 4 (some .int)) (apW [.fieldLink RX10 22 "HookPier" "reader" "LHookPier$Reader;", .fieldLink RX10 68 "HookPier$Reader" "fed" "I", .methodLink RX10 75 yX10_within, .static yX10_within, .initialized RX10, .methodLink RX10 79 yX10_refused, .instanceMethod yX10_refused, .selects RX10 yX10_refused yX10_refused, .fieldLink RX10 16 "HookPier" "spare" "LHookPier$Plan;", .methodLink RX10 83 yX7_read, .instanceMethod yX7_read, .selects RX7 yX7_read yX7_read, .initialized RX7, .fieldLink RX10 87 "HookPier$Reader" "fault" "I", .fieldLink RX10 65 "HookPier" "faultNow" "I", .fieldLink RX10 10 "HookPier" "plan" "LHookPier$Plan;", .fieldLink RX10 29 "HookPier" "now" "LHookPier$Now;", .methodLink RX10 90 yX4_begin, .instanceMethod yX4_begin, .selects RX4 yX4_begin yX4_begin, .initialized RX4, .fieldLink RX10 36 "HookPier" "history" "LHookPier$History;", .methodLink RX10 93 yX2_forgetAll, .instanceMethod yX2_forgetAll, .selects RX2 yX2_forgetAll yX2_forgetAll, .initialized RX2, .fieldLink RX10 96 "HookPier$Plan" "answers" "I"] (apW wsX100 (apW wsX70 (apW wsX60 (apW vfX10_within (apW vfX10_refused (apW vfX7_read (apW vfX4_begin (vfX2_forgetAll)))))))))
theorem ifX10_pier_X10 : ∀ w ∈ wsX100, w ∈ vfX10_pier := fun _ h => (List.mem_cons_of_mem _ (List.mem_append_right _ (List.mem_append_left _ h)))
theorem ifX10_pier_X7 : ∀ w ∈ wsX70, w ∈ vfX10_pier := fun _ h => (List.mem_cons_of_mem _ (List.mem_append_right _ (List.mem_append_right _ (List.mem_append_left _ h))))
theorem ifX10_pier_X6 : ∀ w ∈ wsX60, w ∈ vfX10_pier := fun _ h => (List.mem_cons_of_mem _ (List.mem_append_right _ (List.mem_append_right _ (List.mem_append_right _ (List.mem_append_left _ h)))))
theorem qfX10_pier : Good vfX10_pier := gd_cons (by decide +kernel) (gd_app (gd_dec (by decide +kernel) : Good [.fieldLink RX10 22 "HookPier" "reader" "LHookPier$Reader;", .fieldLink RX10 68 "HookPier$Reader" "fed" "I", .methodLink RX10 75 yX10_within, .static yX10_within, .initialized RX10, .methodLink RX10 79 yX10_refused, .instanceMethod yX10_refused, .selects RX10 yX10_refused yX10_refused, .fieldLink RX10 16 "HookPier" "spare" "LHookPier$Plan;", .methodLink RX10 83 yX7_read, .instanceMethod yX7_read, .selects RX7 yX7_read yX7_read, .initialized RX7, .fieldLink RX10 87 "HookPier$Reader" "fault" "I", .fieldLink RX10 65 "HookPier" "faultNow" "I", .fieldLink RX10 10 "HookPier" "plan" "LHookPier$Plan;", .fieldLink RX10 29 "HookPier" "now" "LHookPier$Now;", .methodLink RX10 90 yX4_begin, .instanceMethod yX4_begin, .selects RX4 yX4_begin yX4_begin, .initialized RX4, .fieldLink RX10 36 "HookPier" "history" "LHookPier$History;", .methodLink RX10 93 yX2_forgetAll, .instanceMethod yX2_forgetAll, .selects RX2 yX2_forgetAll yX2_forgetAll, .initialized RX2, .fieldLink RX10 96 "HookPier$Plan" "answers" "I"]) (gd_app qsX10 (gd_app qsX7 (gd_app qsX6 (gd_app qfX10_within (gd_app qfX10_refused (gd_app qfX7_read (gd_app qfX4_begin qfX2_forgetAll))))))))
theorem gfX10_pier_0 : GoodIn vfX10_pier (va_wsS RX10 75 yX10_within vfX10_within) := goodIn_app (goodIn_r [.methodLink RX10 75 yX10_within, .static yX10_within, .initialized RX10] [3, 4, 5] rfl (by decide +kernel)) (goodIn_m (fun _ h => (List.mem_cons_of_mem _ (List.mem_append_right _ (List.mem_append_right _ (List.mem_append_right _ (List.mem_append_right _ (List.mem_append_left _ h))))))) qfX10_within)
theorem gfX10_pier_1 : GoodIn vfX10_pier (wsV RX10 79 RX10 yX10_refused vfX10_refused) := goodIn_app (goodIn_r [.methodLink RX10 79 yX10_refused, .instanceMethod yX10_refused, .selects RX10 yX10_refused yX10_refused, .initialized RX10] [6, 7, 8, 5] rfl (by decide +kernel)) (goodIn_m (fun _ h => (List.mem_cons_of_mem _ (List.mem_append_right _ (List.mem_append_right _ (List.mem_append_right _ (List.mem_append_right _ (List.mem_append_right _ (List.mem_append_left _ h)))))))) qfX10_refused)
theorem gfX10_pier_2 : GoodIn vfX10_pier (wsV RX10 83 RX7 yX7_read vfX7_read) := goodIn_app (goodIn_r [.methodLink RX10 83 yX7_read, .instanceMethod yX7_read, .selects RX7 yX7_read yX7_read, .initialized RX7] [10, 11, 12, 13] rfl (by decide +kernel)) (goodIn_m (fun _ h => (List.mem_cons_of_mem _ (List.mem_append_right _ (List.mem_append_right _ (List.mem_append_right _ (List.mem_append_right _ (List.mem_append_right _ (List.mem_append_right _ (List.mem_append_left _ h))))))))) qfX7_read)
theorem gfX10_pier_3 : GoodIn vfX10_pier (wsV RX10 90 RX4 yX4_begin vfX4_begin) := goodIn_app (goodIn_r [.methodLink RX10 90 yX4_begin, .instanceMethod yX4_begin, .selects RX4 yX4_begin yX4_begin, .initialized RX4] [18, 19, 20, 21] rfl (by decide +kernel)) (goodIn_m (fun _ h => (List.mem_cons_of_mem _ (List.mem_append_right _ (List.mem_append_right _ (List.mem_append_right _ (List.mem_append_right _ (List.mem_append_right _ (List.mem_append_right _ (List.mem_append_right _ (List.mem_append_left _ h)))))))))) qfX4_begin)
theorem gfX10_pier_4 : GoodIn vfX10_pier (wsV RX10 93 RX2 yX2_forgetAll vfX2_forgetAll) := goodIn_app (goodIn_r [.methodLink RX10 93 yX2_forgetAll, .instanceMethod yX2_forgetAll, .selects RX2 yX2_forgetAll yX2_forgetAll, .initialized RX2] [23, 24, 25, 26] rfl (by decide +kernel)) (goodIn_m (fun _ h => (List.mem_cons_of_mem _ (List.mem_append_right _ (List.mem_append_right _ (List.mem_append_right _ (List.mem_append_right _ (List.mem_append_right _ (List.mem_append_right _ (List.mem_append_right _ (List.mem_append_right _ h)))))))))) qfX2_forgetAll)
set_option maxHeartbeats 2000000 in
set_option maxRecDepth 100000 in
theorem kfX10_pier (l : Launch) (dC : Nat → ClassId) (dI : Nat → Nat → Nat) (a0 : Nat) (k1 : Int32) (a2 : Nat) (a3 : Nat) (a4 : Nat) (a5 : Nat) (up2 : Nat → Nat) (kp2 : Nat → ClassId) (ur : Nat → Nat) (kr : Nat → ClassId) (un : Nat → Nat) (kn : Nat → ClassId) (x_x : TX10_x) (a13 : Nat) (g14 : Value) (g15 : Value) (g16 : Value) (p2_p : TX6_p) (r_r : TX7_r) (n_n : TX4_n) (h_h : TX2_h) (g21 : Value) (g22 : Value) (sz : Nat) (B : Nat) (out : (Int32 × TX10_x × Nat × Nat × TX6_p × TX7_r × TX4_n × TX2_h)) (h : f_X10_pier k1 x_x p2_p r_r n_n h_h a2 a13 = some out) : Met l yX10_pier vfX10_pier ({ frames := 10, cells := 0, slots := 0, locals := 217 }) (PF (dC, dI) B [.ref a0, .int k1] sz ((a0, .inr (7, [.ref a13, .ref a2, .ref a3, .ref a4, .ref a5, g14, g15, g16, .int x_x.1, .int x_x.2])) :: bX6 a2 up2 kp2 p2_p (bX7 a3 ur kr r_r (bX4 a4 un kn n_n ([(a5, .inr (2, [g21, g22, .int h_h.1, .int h_h.2.1, .int h_h.2.2]))])))) (tX6 kp2 (tX7 kr (tX4 kn ([])))) []) (va_Qi (S := Unit) (fun (r : Int32) _ => r = out.1) (fun _ t => BC (dC, dI) (va_A ((a0, .inr (7, [.ref a13, .ref a2, .ref a3, .ref a4, .ref a5, g14, g15, g16, .int x_x.1, .int x_x.2])) :: bX6 a2 up2 kp2 p2_p (bX7 a3 ur kr r_r (bX4 a4 un kn n_n ([(a5, .inr (2, [g21, g22, .int h_h.1, .int h_h.2.1, .int h_h.2.2]))])))) sz) ((a0, .inr (7, [.ref out.2.2.1, .ref out.2.2.2.1, .ref a3, .ref a4, .ref a5, g14, g15, g16, .int out.2.1.1, .int out.2.1.2])) :: bX6 a2 up2 kp2 out.2.2.2.2.1 (bX7 a3 ur kr out.2.2.2.2.2.1 (bX4 a4 un kn out.2.2.2.2.2.2.1 ([(a5, .inr (2, [g21, g22, .int out.2.2.2.2.2.2.2.1, .int out.2.2.2.2.2.2.2.2.1, .int out.2.2.2.2.2.2.2.2.2]))])))) [] t) (va_A ((a0, .inr (7, [.ref a13, .ref a2, .ref a3, .ref a4, .ref a5, g14, g15, g16, .int x_x.1, .int x_x.2])) :: bX6 a2 up2 kp2 p2_p (bX7 a3 ur kr r_r (bX4 a4 un kn n_n ([(a5, .inr (2, [g21, g22, .int h_h.1, .int h_h.2.1, .int h_h.2.2]))])))) sz)) 0 0 (va_A ((a0, .inr (7, [.ref a13, .ref a2, .ref a3, .ref a4, .ref a5, g14, g15, g16, .int x_x.1, .int x_x.2])) :: bX6 a2 up2 kp2 p2_p (bX7 a3 ur kr r_r (bX4 a4 un kn n_n ([(a5, .inr (2, [g21, g22, .int h_h.1, .int h_h.2.1, .int h_h.2.2]))])))) sz) := by
  refine Met.ofW (cc := cX10_pier) (maxL := 4) (ret := (some .int)) (by decide) rfl ?_
  intro p e s m args below meth c s₁ B0 hml hv
  obtain ⟨rfl, hsz, hP, hK, hD0, hN, hBs, hE, hX⟩ := hv
  have hBA := PF_reg hD0 hBs
  have hx := B0.exec
  have hb := B0.bytes
  have hr := B0.returns
  have hts := atoms_spec (ws := vfX10_pier) B0.pre
  have hown : s.vm.findClass RX10 = some m.cls := findClass_of_methodNamed B0.named
  have hlocks := B0.notSynchronized
  subst hsz
  have hD := hD0.self (sz := s.heap.size)
  generalize hAe : va_A ((a0, .inr (7, [.ref a13, .ref a2, .ref a3, .ref a4, .ref a5, g14, g15, g16, .int x_x.1, .int x_x.2])) :: bX6 a2 up2 kp2 p2_p (bX7 a3 ur kr r_r (bX4 a4 un kn n_n ([(a5, .inr (2, [g21, g22, .int h_h.1, .int h_h.2.1, .int h_h.2.2]))])))) s.heap.size = A at hD hBA ⊢
  have hA : ∀ q : Nat, s.heap.size ≤ q → A q := fun q h => by rw [← hAe]; exact Or.inr h
  have hS : va_S A s.heap s.heap [] := va_S.rf
  have hP : va_P (dC, dI) vwCl ((a0, .inr (7, [.ref a13, .ref a2, .ref a3, .ref a4, .ref a5, g14, g15, g16, .int x_x.1, .int x_x.2])) :: bX6 a2 up2 kp2 p2_p (bX7 a3 ur kr r_r (bX4 a4 un kn n_n ([(a5, .inr (2, [g21, g22, .int h_h.1, .int h_h.2.1, .int h_h.2.2]))])))) s.heap := hP
  have hl := lv_entry ([.ref a0, .int k1]) (n := 4) (Nat.le_of_ble_eq_true rfl)
  rw [lg_entry_eq]
  generalize (lg_sl ([.ref a0, .int k1]) ++ List.replicate (4 - (lg_sl ([.ref a0, .int k1])).length) Slot.unset).toArray = ls at hl ⊢
  have hl : lv_has ls 4 [(0, .ref a0), (1, .int k1)] := hl
  have hB : RB B s A := ⟨hBA, hBs⟩
  refine W_q (fun QQ hQQ => ?_)
  rw [f_X10_pier] at h
  refine lv_aload_n hx hb (zat zrX10_pier_0_ok 0 rfl) rfl (lv_at hl 0 rfl) ?_
  refine lv_iload_n hx hb (zat zrX10_pier_0_ok 1 rfl) rfl (lv_at hl 1 rfl) ?_
  refine lv_iconst (v := 0) hx hb (zat zrX10_pier_0_ok 2 rfl) (by decide) ?_
  refine lv_aload_n hx hb (zat zrX10_pier_0_ok 3 rfl) rfl (lv_at hl 0 rfl) ?_
  refine va_get (D := (dC, dI)) (ci := 7) (v := .ref a3) (C := RX10) (T := TX10) (N := 10) hx hb hts ifX10_pier_X10 hown hK hP 0 rfl rfl 2 (by decide) (hts (.fieldLink RX10 22 "HookPier" "reader" "LHookPier$Reader;") (List.mem_of_getElem? (i := 1) rfl)) (fun _ h9 => h9) rfl (zat zrX10_pier_0_ok 4 rfl) ?_
  refine va_get (D := (dC, dI)) (ci := 5) (v := .int r_r.2.1) (C := RX7) (T := TX7) (N := 12) hx hb hts ifX10_pier_X7 hown hK hP 11 rfl rfl 1 (by decide) (hts (.fieldLink RX10 68 "HookPier$Reader" "fed" "I") (List.mem_of_getElem? (i := 2) rfl)) (fun _ h9 => h9) rfl (zat zrX10_pier_0_ok 5 rfl) ?_
  obtain ⟨o10, eo10⟩ : ∃ o, o = f_X10_within k1 (0 : Int32) r_r.2.1 := ⟨_, rfl⟩
  have h := nm_of h o10 eo10
  refine ck_i (wc := []) (wr := ((a0, .inr (7, [.ref a13, .ref a2, .ref a3, .ref a4, .ref a5, g14, g15, g16, .int x_x.1, .int x_x.2])) :: bX6 a2 up2 kp2 p2_p (bX7 a3 ur kr r_r (bX4 a4 un kn n_n ([(a5, .inr (2, [g21, g22, .int h_h.1, .int h_h.2.1, .int h_h.2.2]))]))))) hP hD hK hS hA [] [0, 1, 2, 3, 4, 5, 6, 7, 8, 9, 10, 11, 12, 13, 14, 15, 16, 17, 18, 19, 20] rfl rfl (by decide) (by decide) (by decide) (fun hPc hDc => (va_runS (As := [.int k1, .int 0, .int r_r.2.1]) (rest := [.ref a0]) ⟨hx, hb, hml, hown, hts⟩ (kfX10_within l dC dI k1 (0 : Int32) r_r.2.1 s.heap.size o10 eo10.symm) (va_cwS 3 hts gfX10_pier_0 rfl rfl rfl (by decide +kernel) ⟨(Nat.le_of_ble_eq_true rfl), (Nat.le_of_ble_eq_true rfl)⟩) (PS hPc (hK.sub (tys' := ([])) [] rfl) hDc hN) rfl rfl hl.1 rfl (lv_room (Nat.le_of_ble_eq_true rfl)) (zat zrX10_pier_0_ok 6 rfl) ⟨(Nat.le_of_ble_eq_true rfl), (Nat.le_of_ble_eq_true rfl)⟩)) (fun r10 _ H locs hw hP hD _ hS => ?_)
  obtain ⟨hw, br10⟩ := hw
  obtain rfl := hw.symm
  obtain ⟨hP, hD⟩ := pd_mk ((a0, .inr (7, [.ref a13, .ref a2, .ref a3, .ref a4, .ref a5, g14, g15, g16, .int x_x.1, .int x_x.2])) :: bX6 a2 up2 kp2 p2_p (bX7 a3 ur kr r_r (bX4 a4 un kn n_n ([(a5, .inr (2, [g21, g22, .int h_h.1, .int h_h.2.1, .int h_h.2.2]))])))) hP hD
  have J21 : ∀ (v21_t1 : Int32) (H : Heap) (locs : List Loc) (ls : Array Slot), f_X10_pier_J21 k1 x_x p2_p r_r n_n h_h a2 a13 v21_t1 = some out → va_P (dC, dI) vwCl ((a0, .inr (7, [.ref a13, .ref a2, .ref a3, .ref a4, .ref a5, g14, g15, g16, .int x_x.1, .int x_x.2])) :: bX6 a2 up2 kp2 p2_p (bX7 a3 ur kr r_r (bX4 a4 un kn n_n ([(a5, .inr (2, [g21, g22, .int h_h.1, .int h_h.2.1, .int h_h.2.2]))])))) H → va_D A ((a0, .inr (7, [.ref a13, .ref a2, .ref a3, .ref a4, .ref a5, g14, g15, g16, .int x_x.1, .int x_x.2])) :: bX6 a2 up2 kp2 p2_p (bX7 a3 ur kr r_r (bX4 a4 un kn n_n ([(a5, .inr (2, [g21, g22, .int h_h.1, .int h_h.2.1, .int h_h.2.2]))])))) → va_S A s.heap H locs → lv_has ls 4 [(0, .ref a0), (1, .int k1)] → W p l e (headSpec vfX10_pier { frames := 10, cells := 0, slots := 0, locals := 217 }).room s m ([.ref a0, .int k1]).toArray below meth c H locs 0 0 QQ (F0 m 21 ls [.int v21_t1, .ref a0]) := by
    intro v21_t1 H locs ls h  hP hD hS hl
    rw [f_X10_pier_J21] at h
    obtain ⟨o21, eo21⟩ : ∃ o, o = f_X10_refused v21_t1 x_x := ⟨_, rfl⟩
    have h := nm_of h o21 eo21
    refine ck_i (wc := ([(a0, .inr (7, [.ref a13, .ref a2, .ref a3, .ref a4, .ref a5, g14, g15, g16, .int x_x.1, .int x_x.2]))])) (wr := (bX6 a2 up2 kp2 p2_p (bX7 a3 ur kr r_r (bX4 a4 un kn n_n ([(a5, .inr (2, [g21, g22, .int h_h.1, .int h_h.2.1, .int h_h.2.2]))]))))) hP hD hK hS hA [0] [1, 2, 3, 4, 5, 6, 7, 8, 9, 10, 11, 12, 13, 14, 15, 16, 17, 18, 19, 20] rfl rfl (by decide) (by decide) (by decide) (fun hPc hDc => (va_runV (As := [.int v21_t1]) (rest := []) ⟨hx, hb, hml, hown, hts⟩ (kfX10_refused l dC dI a0 v21_t1 x_x (.ref a13) (.ref a2) (.ref a3) (.ref a4) (.ref a5) (g14) (g15) (g16) H.size o21 eo21.symm) (cwV 1 hts gfX10_pier_1 rfl rfl rfl (by decide +kernel) ⟨(Nat.le_of_ble_eq_true rfl), (Nat.le_of_ble_eq_true rfl)⟩) (PV hPc (hK.sub (tys' := ([])) [] rfl) hDc hN 0 rfl rfl) rfl rfl hl.1 rfl (lv_room (Nat.le_of_ble_eq_true rfl)) (zat zrX10_pier_0_ok 11 rfl) ⟨(Nat.le_of_ble_eq_true rfl), (Nat.le_of_ble_eq_true rfl)⟩)) (fun r21 _ H locs hw hP hD _ hS => ?_)
    obtain ⟨hw, br21⟩ := hw
    obtain rfl := hw
    obtain ⟨hP, hD⟩ := pd_mk (bX6 a2 up2 kp2 p2_p (bX7 a3 ur kr r_r (bX4 a4 un kn n_n ([(a5, .inr (2, [g21, g22, .int h_h.1, .int h_h.2.1, .int h_h.2.2])), (a0, .inr (7, [.ref a13, .ref a2, .ref a3, .ref a4, .ref a5, g14, g15, g16, .int o21.2.1, .int o21.2.2]))])))) hP hD
    refine lv_if_eq (tgt := 29) hx hb (zat zrX10_pier_0_ok 12 rfl) (by decide) (fun c24 => ?_) (fun c24 => ?_)
    · have h := (if_pos c24).symm.trans h
      refine lv_aload_n hx hb (zat zrX10_pier_0_ok 15 rfl) rfl (lv_at hl 0 rfl) ?_
      refine va_get (D := (dC, dI)) (ci := 7) (v := .ref a3) (C := RX10) (T := TX10) (N := 10) hx hb hts ifX10_pier_X10 hown hK hP 20 rfl rfl 2 (by decide) (hts (.fieldLink RX10 22 "HookPier" "reader" "LHookPier$Reader;") (List.mem_of_getElem? (i := 1) rfl)) (fun _ h9 => h9) rfl (zat zrX10_pier_0_ok 16 rfl) ?_
      refine lv_iload_n hx hb (zat zrX10_pier_0_ok 17 rfl) rfl (lv_at hl 1 rfl) ?_
      refine lv_aload_n hx hb (zat zrX10_pier_0_ok 18 rfl) rfl (lv_at hl 0 rfl) ?_
      refine va_get (D := (dC, dI)) (ci := 7) (v := .ref a2) (C := RX10) (T := TX10) (N := 10) hx hb hts ifX10_pier_X10 hown hK hP 20 rfl rfl 1 (by decide) (hts (.fieldLink RX10 16 "HookPier" "spare" "LHookPier$Plan;") (List.mem_of_getElem? (i := 9) rfl)) (fun _ h9 => h9) rfl (zat zrX10_pier_0_ok 19 rfl) ?_
      obtain ⟨o38, eo38, h⟩ := bd_of h
      refine ck_i (wc := (bX7 a3 ur kr r_r (bX6 a2 up2 kp2 p2_p []))) (wr := (bX4 a4 un kn n_n ([(a5, .inr (2, [g21, g22, .int h_h.1, .int h_h.2.1, .int h_h.2.2])), (a0, .inr (7, [.ref a13, .ref a2, .ref a3, .ref a4, .ref a5, g14, g15, g16, .int o21.2.1, .int o21.2.2]))]))) hP hD hK hS hA [10, 11, 12, 13, 0, 1, 2, 3, 4, 5, 6, 7, 8, 9] [14, 15, 16, 17, 18, 19, 20] rfl rfl (by decide) (by decide) (by decide) (fun hPc hDc => (va_runV (As := [.int k1, .ref a2]) (rest := []) ⟨hx, hb, hml, hown, hts⟩ (kfX7_read l dC dI a3 k1 a2 ur kr up2 kp2 r_r p2_p H.size B o38 eo38) (cwV 2 hts gfX10_pier_2 rfl rfl rfl (by decide +kernel) ⟨(Nat.le_of_ble_eq_true rfl), (Nat.le_of_ble_eq_true rfl)⟩) (PVF hPc (hK.sub (tys' := (tX7 kr (tX6 kp2 ([])))) [9, 10, 11, 0, 1, 2, 3, 4, 5, 6, 7, 8] rfl) hDc hN hS hB hE S1n 0 rfl rfl) rfl rfl hl.1 rfl (lv_room (Nat.le_of_ble_eq_true rfl)) (zat zrX10_pier_0_ok 20 rfl) ⟨(Nat.le_of_ble_eq_true rfl), (Nat.le_of_ble_eq_true rfl)⟩)) (fun r38 _ H locs hw hP hD _ hS => ?_)
      obtain ⟨hw, br38⟩ := hw
      obtain rfl := hw
      obtain ⟨hP, hD⟩ := pd_mk (bX4 a4 un kn n_n ((a5, .inr (2, [g21, g22, .int h_h.1, .int h_h.2.1, .int h_h.2.2])) :: (a0, .inr (7, [.ref a13, .ref a2, .ref a3, .ref a4, .ref a5, g14, g15, g16, .int o21.2.1, .int o21.2.2])) :: bX7 a3 ur kr o38.2.1 (bX6 a2 up2 kp2 o38.2.2 []))) hP hD
      refine lv_istore_n (lv' := [(2, .int o38.1), (0, .ref a0), (1, .int k1)]) hx hb (zat zrX10_pier_0_ok 21 rfl) rfl hl (by decide) rfl (fun ls hl => ?_)
      refine lv_aload_n hx hb (zat zrX10_pier_0_ok 22 rfl) rfl (lv_at hl 1 rfl) ?_
      refine lv_aload_n hx hb (zat zrX10_pier_0_ok 23 rfl) rfl (lv_at hl 1 rfl) ?_
      refine va_get (D := (dC, dI)) (ci := 7) (v := .ref a3) (C := RX10) (T := TX10) (N := 10) hx hb hts ifX10_pier_X10 hown hK hP 6 rfl rfl 2 (by decide) (hts (.fieldLink RX10 22 "HookPier" "reader" "LHookPier$Reader;") (List.mem_of_getElem? (i := 1) rfl)) (fun _ h9 => h9) rfl (zat zrX10_pier_0_ok 24 rfl) ?_
      refine va_get (D := (dC, dI)) (ci := 5) (v := .int o38.2.1.2.2.2.2.2.2.2.2.2.2.1) (C := RX7) (T := TX7) (N := 12) hx hb hts ifX10_pier_X7 hown hK hP 7 rfl rfl 10 (by decide) (hts (.fieldLink RX10 87 "HookPier$Reader" "fault" "I") (List.mem_of_getElem? (i := 14) rfl)) (fun _ h9 => h9) rfl (zat zrX10_pier_0_ok 25 rfl) ?_
      refine va_put (D := (dC, dI)) (ci := 7) (v := .int o38.2.1.2.2.2.2.2.2.2.2.2.2.1) (ty := .int) (C := RX10) (T := TX10) (N := 10) hx hb hts ifX10_pier_X10 tyX10 tyX10_ok nmX10 hown hK hP hD hS 6 rfl rfl 9 (by decide) (hts (.fieldLink RX10 65 "HookPier" "faultNow" "I") (List.mem_of_getElem? (i := 15) rfl)) (fun _ h9 => h9) rfl (by decide +kernel) rfl rfl (Nat.le_of_ble_eq_true rfl) (zat zrX10_pier_0_ok 26 rfl) (fun H locs hP hD hS => ?_)
      obtain ⟨hP, hD⟩ := pd_mk (bX4 a4 un kn n_n ((a5, .inr (2, [g21, g22, .int h_h.1, .int h_h.2.1, .int h_h.2.2])) :: (a0, .inr (7, [.ref a13, .ref a2, .ref a3, .ref a4, .ref a5, g14, g15, g16, .int o21.2.1, .int o38.2.1.2.2.2.2.2.2.2.2.2.2.1])) :: bX7 a3 ur kr o38.2.1 (bX6 a2 up2 kp2 o38.2.2 []))) hP hD
      refine lv_aload_n hx hb (zat zrX10_pier_0_ok 27 rfl) rfl (lv_at hl 1 rfl) ?_
      refine lv_iload_n hx hb (zat zrX10_pier_0_ok 28 rfl) rfl (lv_at hl 0 rfl) ?_
      have J63 : ∀ (v63_t1 : Int32) (H : Heap) (locs : List Loc) (ls : Array Slot), f_X10_pier_J63 n_n h_h a2 a13 o21 o38 v63_t1 = some out → va_P (dC, dI) vwCl (bX4 a4 un kn n_n ((a5, .inr (2, [g21, g22, .int h_h.1, .int h_h.2.1, .int h_h.2.2])) :: (a0, .inr (7, [.ref a13, .ref a2, .ref a3, .ref a4, .ref a5, g14, g15, g16, .int o21.2.1, .int o38.2.1.2.2.2.2.2.2.2.2.2.2.1])) :: bX7 a3 ur kr o38.2.1 (bX6 a2 up2 kp2 o38.2.2 []))) H → va_D A (bX4 a4 un kn n_n ((a5, .inr (2, [g21, g22, .int h_h.1, .int h_h.2.1, .int h_h.2.2])) :: (a0, .inr (7, [.ref a13, .ref a2, .ref a3, .ref a4, .ref a5, g14, g15, g16, .int o21.2.1, .int o38.2.1.2.2.2.2.2.2.2.2.2.2.1])) :: bX7 a3 ur kr o38.2.1 (bX6 a2 up2 kp2 o38.2.2 []))) → va_S A s.heap H locs → lv_has ls 4 [(0, .ref a0)] → W p l e (headSpec vfX10_pier { frames := 10, cells := 0, slots := 0, locals := 217 }).room s m ([.ref a0, .int k1]).toArray below meth c H locs 0 0 QQ (F0 m 63 ls [.int v63_t1, .ref a0]) := by
        intro v63_t1 H locs ls h  hP hD hS hl
        rw [f_X10_pier_J63] at h
        obtain ⟨o63, eo63⟩ : ∃ o, o = f_X10_refused v63_t1 (o21.2.1, o38.2.1.2.2.2.2.2.2.2.2.2.2.1) := ⟨_, rfl⟩
        have h := nm_of h o63 eo63
        refine ck_i (wc := ([(a0, .inr (7, [.ref a13, .ref a2, .ref a3, .ref a4, .ref a5, g14, g15, g16, .int o21.2.1, .int o38.2.1.2.2.2.2.2.2.2.2.2.2.1]))])) (wr := (bX4 a4 un kn n_n ((a5, .inr (2, [g21, g22, .int h_h.1, .int h_h.2.1, .int h_h.2.2])) :: bX7 a3 ur kr o38.2.1 (bX6 a2 up2 kp2 o38.2.2 [])))) hP hD hK hS hA [6] [0, 1, 2, 3, 4, 5, 7, 8, 9, 10, 11, 12, 13, 14, 15, 16, 17, 18, 19, 20] rfl rfl (by decide) (by decide) (by decide) (fun hPc hDc => (va_runV (As := [.int v63_t1]) (rest := []) ⟨hx, hb, hml, hown, hts⟩ (kfX10_refused l dC dI a0 v63_t1 (o21.2.1, o38.2.1.2.2.2.2.2.2.2.2.2.2.1) (.ref a13) (.ref a2) (.ref a3) (.ref a4) (.ref a5) (g14) (g15) (g16) H.size o63 eo63.symm) (cwV 1 hts gfX10_pier_1 rfl rfl rfl (by decide +kernel) ⟨(Nat.le_of_ble_eq_true rfl), (Nat.le_of_ble_eq_true rfl)⟩) (PV hPc (hK.sub (tys' := ([])) [] rfl) hDc hN 0 rfl rfl) rfl rfl hl.1 rfl (lv_room (Nat.le_of_ble_eq_true rfl)) (zat zrX10_pier_0_ok 33 rfl) ⟨(Nat.le_of_ble_eq_true rfl), (Nat.le_of_ble_eq_true rfl)⟩)) (fun r63 _ H locs hw hP hD _ hS => ?_)
        obtain ⟨hw, br63⟩ := hw
        obtain rfl := hw
        obtain ⟨hP, hD⟩ := pd_mk (bX4 a4 un kn n_n ((a5, .inr (2, [g21, g22, .int h_h.1, .int h_h.2.1, .int h_h.2.2])) :: bX7 a3 ur kr o38.2.1 (bX6 a2 up2 kp2 o38.2.2 ([(a0, .inr (7, [.ref a13, .ref a2, .ref a3, .ref a4, .ref a5, g14, g15, g16, .int o63.2.1, .int o63.2.2]))])))) hP hD
        refine lv_if_eq (tgt := 71) hx hb (zat zrX10_pier_0_ok 34 rfl) (by decide) (fun c66 => ?_) (fun c66 => ?_)
        · have h := (if_pos c66).symm.trans h
          refine lv_aload_n hx hb (zat zrX10_pier_0_ok 37 rfl) rfl (lv_at hl 0 rfl) ?_
          refine va_get (D := (dC, dI)) (ci := 7) (v := .ref a13) (C := RX10) (T := TX10) (N := 10) hx hb hts ifX10_pier_X10 hown hK hP 20 rfl rfl 0 (by decide) (hts (.fieldLink RX10 10 "HookPier" "plan" "LHookPier$Plan;") (List.mem_of_getElem? (i := 16) rfl)) (fun _ h9 => h9) rfl (zat zrX10_pier_0_ok 38 rfl) ?_
          refine lv_astore_n (lv' := [(3, .ref a13), (0, .ref a0)]) hx hb (zat zrX10_pier_0_ok 39 rfl) rfl hl (by decide) rfl (fun ls hl => ?_)
          refine lv_aload_n hx hb (zat zrX10_pier_0_ok 40 rfl) rfl (lv_at hl 1 rfl) ?_
          refine lv_aload_n hx hb (zat zrX10_pier_0_ok 41 rfl) rfl (lv_at hl 1 rfl) ?_
          refine va_get (D := (dC, dI)) (ci := 7) (v := .ref a2) (C := RX10) (T := TX10) (N := 10) hx hb hts ifX10_pier_X10 hown hK hP 20 rfl rfl 1 (by decide) (hts (.fieldLink RX10 16 "HookPier" "spare" "LHookPier$Plan;") (List.mem_of_getElem? (i := 9) rfl)) (fun _ h9 => h9) rfl (zat zrX10_pier_0_ok 42 rfl) ?_
          refine va_put (D := (dC, dI)) (ci := 7) (v := .ref a2) (ty := .object "HookPier$Plan") (C := RX10) (T := TX10) (N := 10) hx hb hts ifX10_pier_X10 tyX10 tyX10_ok nmX10 hown hK hP hD hS 20 rfl rfl 0 (by decide) (hts (.fieldLink RX10 10 "HookPier" "plan" "LHookPier$Plan;") (List.mem_of_getElem? (i := 16) rfl)) (fun _ h9 => h9) rfl (by decide +kernel) rfl rfl (Nat.le_of_ble_eq_true rfl) (zat zrX10_pier_0_ok 43 rfl) (fun H locs hP hD hS => ?_)
          obtain ⟨hP, hD⟩ := pd_mk (bX4 a4 un kn n_n ((a5, .inr (2, [g21, g22, .int h_h.1, .int h_h.2.1, .int h_h.2.2])) :: bX7 a3 ur kr o38.2.1 (bX6 a2 up2 kp2 o38.2.2 ([(a0, .inr (7, [.ref a2, .ref a2, .ref a3, .ref a4, .ref a5, g14, g15, g16, .int o63.2.1, .int o63.2.2]))])))) hP hD
          refine lv_aload_n hx hb (zat zrX10_pier_0_ok 44 rfl) rfl (lv_at hl 1 rfl) ?_
          refine lv_aload_n hx hb (zat zrX10_pier_0_ok 45 rfl) rfl (lv_at hl 0 rfl) ?_
          refine va_put (D := (dC, dI)) (ci := 7) (v := .ref a13) (ty := .object "HookPier$Plan") (C := RX10) (T := TX10) (N := 10) hx hb hts ifX10_pier_X10 tyX10 tyX10_ok nmX10 hown hK hP hD hS 20 rfl rfl 1 (by decide) (hts (.fieldLink RX10 16 "HookPier" "spare" "LHookPier$Plan;") (List.mem_of_getElem? (i := 9) rfl)) (fun _ h9 => h9) rfl (by decide +kernel) rfl rfl (Nat.le_of_ble_eq_true rfl) (zat zrX10_pier_0_ok 46 rfl) (fun H locs hP hD hS => ?_)
          obtain ⟨hP, hD⟩ := pd_mk (bX4 a4 un kn n_n ((a5, .inr (2, [g21, g22, .int h_h.1, .int h_h.2.1, .int h_h.2.2])) :: bX7 a3 ur kr o38.2.1 (bX6 a2 up2 kp2 o38.2.2 ([(a0, .inr (7, [.ref a2, .ref a13, .ref a3, .ref a4, .ref a5, g14, g15, g16, .int o63.2.1, .int o63.2.2]))])))) hP hD
          refine lv_aload_n hx hb (zat zrX10_pier_0_ok 47 rfl) rfl (lv_at hl 1 rfl) ?_
          refine va_get (D := (dC, dI)) (ci := 7) (v := .ref a4) (C := RX10) (T := TX10) (N := 10) hx hb hts ifX10_pier_X10 hown hK hP 20 rfl rfl 3 (by decide) (hts (.fieldLink RX10 29 "HookPier" "now" "LHookPier$Now;") (List.mem_of_getElem? (i := 17) rfl)) (fun _ h9 => h9) rfl (zat zrX10_pier_0_ok 48 rfl) ?_
          obtain ⟨o93, eo93, h⟩ := bd_of h
          refine ck_v (wc := (bX4 a4 un kn n_n [])) (wr := ((a5, .inr (2, [g21, g22, .int h_h.1, .int h_h.2.1, .int h_h.2.2])) :: bX7 a3 ur kr o38.2.1 (bX6 a2 up2 kp2 o38.2.2 ([(a0, .inr (7, [.ref a2, .ref a13, .ref a3, .ref a4, .ref a5, g14, g15, g16, .int o63.2.1, .int o63.2.2]))])))) hP hD hK hS hA [0, 1, 2, 3, 4] [5, 6, 7, 8, 9, 10, 11, 12, 13, 14, 15, 16, 17, 18, 19, 20] rfl rfl (by decide) (by decide) (by decide) (fun hPc hDc => (va_runV (As := []) (rest := []) ⟨hx, hb, hml, hown, hts⟩ (kfX4_begin l dC dI a4 un kn n_n H.size o93 eo93) (cwV 0 hts gfX10_pier_3 rfl rfl rfl (by decide +kernel) ⟨(Nat.le_of_ble_eq_true rfl), (Nat.le_of_ble_eq_true rfl)⟩) (PV hPc (hK.sub (tys' := (tX4 kn ([]))) [12, 13, 14, 15] rfl) hDc hN 0 rfl rfl) rfl rfl hl.1 rfl (lv_room (Nat.le_of_ble_eq_true rfl)) (zat zrX10_pier_0_ok 49 rfl) ⟨(Nat.le_of_ble_eq_true rfl), (Nat.le_of_ble_eq_true rfl)⟩)) (fun _ H locs hw hP hD _ hS => ?_)
          obtain ⟨hP, hD⟩ := pd_mk ((a5, .inr (2, [g21, g22, .int h_h.1, .int h_h.2.1, .int h_h.2.2])) :: bX7 a3 ur kr o38.2.1 (bX6 a2 up2 kp2 o38.2.2 ((a0, .inr (7, [.ref a2, .ref a13, .ref a3, .ref a4, .ref a5, g14, g15, g16, .int o63.2.1, .int o63.2.2])) :: bX4 a4 un kn o93 []))) hP hD
          refine lv_aload_n hx hb (zat zrX10_pier_0_ok 50 rfl) rfl (lv_at hl 1 rfl) ?_
          refine va_get (D := (dC, dI)) (ci := 7) (v := .ref a5) (C := RX10) (T := TX10) (N := 10) hx hb hts ifX10_pier_X10 hown hK hP 15 rfl rfl 4 (by decide) (hts (.fieldLink RX10 36 "HookPier" "history" "LHookPier$History;") (List.mem_of_getElem? (i := 22) rfl)) (fun _ h9 => h9) rfl (zat zrX10_pier_0_ok 51 rfl) ?_
          obtain ⟨o100, eo100⟩ : ∃ o, o = f_X2_forgetAll h_h := ⟨_, rfl⟩
          have h := nm_of h o100 eo100
          refine ck_v (wc := ([(a5, .inr (2, [g21, g22, .int h_h.1, .int h_h.2.1, .int h_h.2.2]))])) (wr := (bX7 a3 ur kr o38.2.1 (bX6 a2 up2 kp2 o38.2.2 ((a0, .inr (7, [.ref a2, .ref a13, .ref a3, .ref a4, .ref a5, g14, g15, g16, .int o63.2.1, .int o63.2.2])) :: bX4 a4 un kn o93 [])))) hP hD hK hS hA [0] [1, 2, 3, 4, 5, 6, 7, 8, 9, 10, 11, 12, 13, 14, 15, 16, 17, 18, 19, 20] rfl rfl (by decide) (by decide) (by decide) (fun hPc hDc => (va_runV (As := []) (rest := []) ⟨hx, hb, hml, hown, hts⟩ (kfX2_forgetAll l dC dI a5 h_h (g21) (g22) H.size o100 eo100.symm) (cwV 0 hts gfX10_pier_4 rfl rfl rfl (by decide +kernel) ⟨(Nat.le_of_ble_eq_true rfl), (Nat.le_of_ble_eq_true rfl)⟩) (PV hPc (hK.sub (tys' := ([])) [] rfl) hDc hN 0 rfl rfl) rfl rfl hl.1 rfl (lv_room (Nat.le_of_ble_eq_true rfl)) (zat zrX10_pier_0_ok 52 rfl) ⟨(Nat.le_of_ble_eq_true rfl), (Nat.le_of_ble_eq_true rfl)⟩)) (fun _ H locs hw hP hD _ hS => ?_)
          obtain ⟨hP, hD⟩ := pd_mk (bX7 a3 ur kr o38.2.1 (bX6 a2 up2 kp2 o38.2.2 ((a0, .inr (7, [.ref a2, .ref a13, .ref a3, .ref a4, .ref a5, g14, g15, g16, .int o63.2.1, .int o63.2.2])) :: bX4 a4 un kn o93 ([(a5, .inr (2, [g21, g22, .int o100.1, .int o100.2.1, .int o100.2.2]))])))) hP hD
          refine lv_aload_n hx hb (zat zrX10_pier_0_ok 53 rfl) rfl (lv_at hl 1 rfl) ?_
          refine va_get (D := (dC, dI)) (ci := 7) (v := .ref a2) (C := RX10) (T := TX10) (N := 10) hx hb hts ifX10_pier_X10 hown hK hP 14 rfl rfl 0 (by decide) (hts (.fieldLink RX10 10 "HookPier" "plan" "LHookPier$Plan;") (List.mem_of_getElem? (i := 16) rfl)) (fun _ h9 => h9) rfl (zat zrX10_pier_0_ok 54 rfl) ?_
          refine va_get (D := (dC, dI)) (ci := 4) (v := .int o38.2.2.2.2.2.2.2.2.1) (C := RX6) (T := TX6) (N := 18) hx hb hts ifX10_pier_X6 hown hK hP 4 rfl rfl 6 (by decide) (hts (.fieldLink RX10 96 "HookPier$Plan" "answers" "I") (List.mem_of_getElem? (i := 27) rfl)) (fun _ h9 => h9) rfl (zat zrX10_pier_0_ok 55 rfl) ?_
          obtain rfl := Option.some.inj h
          obtain ⟨hP9, hD9⟩ := pd_sub ((a0, .inr (7, [.ref a2, .ref a13, .ref a3, .ref a4, .ref a5, g14, g15, g16, .int o63.2.1, .int o63.2.2])) :: bX6 a2 up2 kp2 o38.2.2 (bX7 a3 ur kr o38.2.1 (bX4 a4 un kn o93 ([(a5, .inr (2, [g21, g22, .int o100.1, .int o100.2.1, .int o100.2.2]))])))) [14, 4, 5, 6, 7, 8, 9, 10, 11, 12, 13, 0, 1, 2, 3, 15, 16, 17, 18, 19, 20] hP hD (by decide) rfl
          have hK9 := hK.sub (tys' := []) [] rfl
          rw [hQQ]
          exact W.iret (v := o38.2.2.2.2.2.2.2.2.1) hx hb hr (fun t ht hW => ⟨⟨o38.2.2.2.2.2.2.2.2.1, (), rfl, rfl, by rw [ht]; exact hP9, va_K.moved hW.alike hK9, hD9⟩, hS.F ht⟩) hS.2.2 (zat zrX10_pier_0_ok 56 rfl)
        · have h := (if_neg c66).symm.trans h
          refine lv_iconst (v := (-1)) hx hb (zat zrX10_pier_0_ok 35 rfl) (by decide) ?_
          obtain rfl := Option.some.inj h
          obtain ⟨hP9, hD9⟩ := pd_sub ((a0, .inr (7, [.ref a13, .ref a2, .ref a3, .ref a4, .ref a5, g14, g15, g16, .int o63.2.1, .int o63.2.2])) :: bX6 a2 up2 kp2 o38.2.2 (bX7 a3 ur kr o38.2.1 (bX4 a4 un kn n_n ([(a5, .inr (2, [g21, g22, .int h_h.1, .int h_h.2.1, .int h_h.2.2]))])))) [20, 10, 11, 12, 13, 14, 15, 16, 17, 18, 19, 6, 7, 8, 9, 0, 1, 2, 3, 4, 5] hP hD (by decide) rfl
          have hK9 := hK.sub (tys' := []) [] rfl
          rw [hQQ]
          exact W.iret (v := (-1 : Int32)) hx hb hr (fun t ht hW => ⟨⟨(-1 : Int32), (), rfl, rfl, by rw [ht]; exact hP9, va_K.moved hW.alike hK9, hD9⟩, hS.F ht⟩) hS.2.2 (zat zrX10_pier_0_ok 36 rfl)
      refine lv_if_eq (tgt := 62) hx hb (zat zrX10_pier_0_ok 29 rfl) (by decide) (fun c55 => ?_) (fun c55 => ?_)
      · have h := (if_pos c55).symm.trans h
        refine lv_iconst (v := 4) hx hb (zat zrX10_pier_0_ok 32 rfl) (by decide) ?_
        exact J63 (4 : Int32) H _ ls h  hP hD hS (lv_sub hl [1] rfl)
      · have h := (if_neg c55).symm.trans h
        refine lv_iconst (v := 0) hx hb (zat zrX10_pier_0_ok 30 rfl) (by decide) ?_
        refine lv_goto (tgt := 63) hx hb (zat zrX10_pier_0_ok 31 rfl) (by decide) ?_
        exact J63 (0 : Int32) H _ ls h  hP hD hS (lv_sub hl [1] rfl)
    · have h := (if_neg c24).symm.trans h
      refine lv_iconst (v := (-1)) hx hb (zat zrX10_pier_0_ok 13 rfl) (by decide) ?_
      obtain rfl := Option.some.inj h
      obtain ⟨hP9, hD9⟩ := pd_sub ((a0, .inr (7, [.ref a13, .ref a2, .ref a3, .ref a4, .ref a5, g14, g15, g16, .int o21.2.1, .int o21.2.2])) :: bX6 a2 up2 kp2 p2_p (bX7 a3 ur kr r_r (bX4 a4 un kn n_n ([(a5, .inr (2, [g21, g22, .int h_h.1, .int h_h.2.1, .int h_h.2.2]))])))) [20, 0, 1, 2, 3, 4, 5, 6, 7, 8, 9, 10, 11, 12, 13, 14, 15, 16, 17, 18, 19] hP hD (by decide) rfl
      have hK9 := hK.sub (tys' := []) [] rfl
      rw [hQQ]
      exact W.iret (v := (-1 : Int32)) hx hb hr (fun t ht hW => ⟨⟨(-1 : Int32), (), rfl, rfl, by rw [ht]; exact hP9, va_K.moved hW.alike hK9, hD9⟩, hS.F ht⟩) hS.2.2 (zat zrX10_pier_0_ok 14 rfl)
  refine lv_if_eq (tgt := 20) hx hb (zat zrX10_pier_0_ok 7 rfl) (by decide) (fun c13 => ?_) (fun c13 => ?_)
  · have h := (if_pos c13).symm.trans h
    refine lv_iconst (v := 2) hx hb (zat zrX10_pier_0_ok 10 rfl) (by decide) ?_
    exact J21 (2 : Int32) H _ ls h  hP hD hS (lv_sub hl [0, 1] rfl)
  · have h := (if_neg c13).symm.trans h
    refine lv_iconst (v := 0) hx hb (zat zrX10_pier_0_ok 8 rfl) (by decide) ?_
    refine lv_goto (tgt := 21) hx hb (zat zrX10_pier_0_ok 9 rfl) (by decide) ?_
    exact J21 (0 : Int32) H _ ls h  hP hD hS (lv_sub hl [0, 1] rfl)
noncomputable def zrX12_isAsker_0 : List ZR := zc 0 true (.aload_n 0) 1 (zc 1 true (.getfield 299) 3 (zc 4 true (.ifnull 22) 3 (zc 7 true (.iload_n 1) 1 (zc 8 true (.ifCond .lt 18) 3 (zc 11 true (.iload_n 1) 1 (zc 12 true (.aload_n 0) 1 (zc 13 true (.getfield 299) 3 (zc 16 true (.getfield 224) 3 (zc 19 true (.if_icmp .ge 7) 3 (zc 22 true (.iconst 1) 1 (zc 23 true (.goto 4) 3 (zc 26 true (.iconst 0) 1 (zc 27 true (.ireturn) 1 ([]))))))))))))))
theorem zrX12_isAsker_0_ok : zck 0 ((zby cX12_isAsker).drop 0) zrX12_isAsker_0 = true := by decide +kernel
def vfX12_isAsker : List Cond := List.cons (.code yX12_isAsker cX12_isAsker 2 (some .boolean)) (apW [.fieldLink RX12 299 "HookPierModel" "pier" "LHookPierModel$Pier;"] (apW wsX120 (wsX110)))
theorem ifX12_isAsker_X12 : ∀ w ∈ wsX120, w ∈ vfX12_isAsker := fun _ h => (List.mem_cons_of_mem _ (List.mem_append_right _ (List.mem_append_left _ h)))
theorem ifX12_isAsker_X11 : ∀ w ∈ wsX110, w ∈ vfX12_isAsker := fun _ h => (List.mem_cons_of_mem _ (List.mem_append_right _ (List.mem_append_right _ h)))
theorem qfX12_isAsker : Good vfX12_isAsker := gd_cons (by decide +kernel) (gd_app (gd_dec (by decide +kernel) : Good [.fieldLink RX12 299 "HookPierModel" "pier" "LHookPierModel$Pier;"]) (gd_app qsX12 qsX11))
set_option maxHeartbeats 2000000 in
set_option maxRecDepth 100000 in
theorem kfX12_isAsker (l : Launch) (dC : Nat → ClassId) (dI : Nat → Nat → Nat) (a0 : Nat) (k1 : Int32) (a2 : Nat) (uq : Nat → Nat) (kq : Nat → ClassId) (g5 : Value) (g6 : Value) (g7 : Value) (g8 : Value) (g9 : Value) (g10 : Value) (g11 : Value) (g12 : Value) (g13 : Value) (g14 : Value) (g15 : Value) (g16 : Value) (g17 : Value) (g18 : Value) (g19 : Value) (g20 : Value) (g21 : Value) (g22 : Value) (g23 : Value) (g24 : Value) (g25 : Value) (g26 : Value) (g27 : Value) (g28 : Value) (g29 : Value) (g30 : Value) (g31 : Value) (g32 : Value) (g33 : Value) (q_q : TX11_q) (sz : Nat) (out : Int32) (h : f_X12_isAsker k1 q_q = out) : KDi l yX12_isAsker vfX12_isAsker ({ frames := 0, cells := 0, slots := 0, locals := 0 }) (dC, dI) [.ref a0, .int k1] sz ((a0, .inr (9, [g5, g6, g7, .ref a2, g8, g9, g10, g11, g12, g13, g14, g15, g16, g17, g18, g19, g20, g21, g22, g23, g24, g25, g26, g27, g28, g29, g30, g31, g32, g33])) :: bX11 a2 uq kq q_q []) (tX11 kq ([])) (fun (r : Int32) _ => r = out ∧ (0 ≤ r.toInt ∧ r.toInt ≤ 1)) 0 0 := by
  refine Met.ofW (cc := cX12_isAsker) (maxL := 2) (ret := (some .boolean)) (by decide) rfl ?_
  intro p e s m args below meth c s₁ B0 hml hv
  obtain ⟨rfl, hsz, hP, hK, hD0, hN⟩ := hv
  have hx := B0.exec
  have hb := B0.bytes
  have hr := B0.returns
  have hts := atoms_spec (ws := vfX12_isAsker) B0.pre
  have hown : s.vm.findClass RX12 = some m.cls := findClass_of_methodNamed B0.named
  have hlocks := B0.notSynchronized
  subst hsz
  have hD := hD0.self (sz := s.heap.size)
  generalize hAe : va_A ((a0, .inr (9, [g5, g6, g7, .ref a2, g8, g9, g10, g11, g12, g13, g14, g15, g16, g17, g18, g19, g20, g21, g22, g23, g24, g25, g26, g27, g28, g29, g30, g31, g32, g33])) :: bX11 a2 uq kq q_q []) s.heap.size = A at hD ⊢
  have hA : ∀ q : Nat, s.heap.size ≤ q → A q := fun q h => by rw [← hAe]; exact Or.inr h
  have hS : va_S A s.heap s.heap [] := va_S.rf
  have hP : va_P (dC, dI) vwCl ((a0, .inr (9, [g5, g6, g7, .ref a2, g8, g9, g10, g11, g12, g13, g14, g15, g16, g17, g18, g19, g20, g21, g22, g23, g24, g25, g26, g27, g28, g29, g30, g31, g32, g33])) :: bX11 a2 uq kq q_q []) s.heap := hP
  have hl := lv_entry ([.ref a0, .int k1]) (n := 2) (Nat.le_of_ble_eq_true rfl)
  rw [lg_entry_eq]
  generalize (lg_sl ([.ref a0, .int k1]) ++ List.replicate (2 - (lg_sl ([.ref a0, .int k1])).length) Slot.unset).toArray = ls at hl ⊢
  have hl : lv_has ls 2 [(0, .ref a0), (1, .int k1)] := hl
  refine W_q (fun QQ hQQ => ?_)
  rw [f_X12_isAsker] at h
  refine lv_aload_n hx hb (zat zrX12_isAsker_0_ok 0 rfl) rfl (lv_at hl 0 rfl) ?_
  refine va_get (D := (dC, dI)) (ci := 9) (v := .ref a2) (C := RX12) (T := TX12) (N := 30) hx hb hts ifX12_isAsker_X12 hown hK hP 0 rfl rfl 3 (by decide) (hts (.fieldLink RX12 299 "HookPierModel" "pier" "LHookPierModel$Pier;") (List.mem_of_getElem? (i := 1) rfl)) (fun _ h9 => h9) rfl (zat zrX12_isAsker_0_ok 1 rfl) ?_
  refine lv_ifnull hx hb (zat zrX12_isAsker_0_ok 2 rfl) ?_
  refine lv_iload_n hx hb (zat zrX12_isAsker_0_ok 3 rfl) rfl (lv_at hl 1 rfl) ?_
  refine lv_if_lt (tgt := 26) hx hb (zat zrX12_isAsker_0_ok 4 rfl) (by decide) (fun c8 => ?_) (fun c8 => ?_)
  · have h := (if_pos c8).symm.trans h
    refine lv_iconst (v := 0) hx hb (zat zrX12_isAsker_0_ok 12 rfl) (by decide) ?_
    obtain rfl := h
    obtain ⟨hP9, hD9⟩ := pd_sub ((a0, .inr (9, [g5, g6, g7, .ref a2, g8, g9, g10, g11, g12, g13, g14, g15, g16, g17, g18, g19, g20, g21, g22, g23, g24, g25, g26, g27, g28, g29, g30, g31, g32, g33])) :: bX11 a2 uq kq q_q []) [0, 1, 2, 3, 4, 5, 6, 7, 8, 9, 10, 11, 12, 13, 14, 15] hP hD (by decide) rfl
    have hK9 := hK.sub (tys' := []) [] rfl
    rw [hQQ]
    exact W.zret (v := (0 : Int32)) hx hb hr rfl (fun t ht hW => ⟨⟨(0 : Int32), (), rfl, ⟨rfl, (by decide)⟩, by rw [ht]; exact hP9, va_K.moved hW.alike hK9, hD9⟩, hS.F ht⟩) hS.2.2 (zat zrX12_isAsker_0_ok 13 rfl)
  · have h := (if_neg c8).symm.trans h
    refine lv_iload_n hx hb (zat zrX12_isAsker_0_ok 5 rfl) rfl (lv_at hl 1 rfl) ?_
    refine lv_aload_n hx hb (zat zrX12_isAsker_0_ok 6 rfl) rfl (lv_at hl 0 rfl) ?_
    refine va_get (D := (dC, dI)) (ci := 9) (v := .ref a2) (C := RX12) (T := TX12) (N := 30) hx hb hts ifX12_isAsker_X12 hown hK hP 0 rfl rfl 3 (by decide) (hts (.fieldLink RX12 299 "HookPierModel" "pier" "LHookPierModel$Pier;") (List.mem_of_getElem? (i := 1) rfl)) (fun _ h9 => h9) rfl (zat zrX12_isAsker_0_ok 7 rfl) ?_
    refine va_getN (D := (dC, dI)) (ci := 8) (v := .int q_q.2.2.2.2.2.1) (C := RX11) (T := TX11) (N := 24) hx hb hts ifX12_isAsker_X11 hown hK hP 1 rfl rfl 5 (by decide) (va_Nw.use rfl (hN.1 (.fieldLinkNest RX12 224 "HookPierModel$Pier" "askers" "I" "HookPierModel") (List.mem_of_getElem? (i := 27) rfl))) (fun _ h9 => h9) rfl (zat zrX12_isAsker_0_ok 8 rfl) ?_
    refine lv_icmp_ge (tgt := 26) hx hb (zat zrX12_isAsker_0_ok 9 rfl) (by decide) (fun c19 => ?_) (fun c19 => ?_)
    · have h := (if_pos c19).symm.trans h
      refine lv_iconst (v := 0) hx hb (zat zrX12_isAsker_0_ok 12 rfl) (by decide) ?_
      obtain rfl := h
      obtain ⟨hP9, hD9⟩ := pd_sub ((a0, .inr (9, [g5, g6, g7, .ref a2, g8, g9, g10, g11, g12, g13, g14, g15, g16, g17, g18, g19, g20, g21, g22, g23, g24, g25, g26, g27, g28, g29, g30, g31, g32, g33])) :: bX11 a2 uq kq q_q []) [0, 1, 2, 3, 4, 5, 6, 7, 8, 9, 10, 11, 12, 13, 14, 15] hP hD (by decide) rfl
      have hK9 := hK.sub (tys' := []) [] rfl
      rw [hQQ]
      exact W.zret (v := (0 : Int32)) hx hb hr rfl (fun t ht hW => ⟨⟨(0 : Int32), (), rfl, ⟨rfl, (by decide)⟩, by rw [ht]; exact hP9, va_K.moved hW.alike hK9, hD9⟩, hS.F ht⟩) hS.2.2 (zat zrX12_isAsker_0_ok 13 rfl)
    · have h := (if_neg c19).symm.trans h
      refine lv_iconst (v := 1) hx hb (zat zrX12_isAsker_0_ok 10 rfl) (by decide) ?_
      refine lv_goto (tgt := 27) hx hb (zat zrX12_isAsker_0_ok 11 rfl) (by decide) ?_
      obtain rfl := h
      obtain ⟨hP9, hD9⟩ := pd_sub ((a0, .inr (9, [g5, g6, g7, .ref a2, g8, g9, g10, g11, g12, g13, g14, g15, g16, g17, g18, g19, g20, g21, g22, g23, g24, g25, g26, g27, g28, g29, g30, g31, g32, g33])) :: bX11 a2 uq kq q_q []) [0, 1, 2, 3, 4, 5, 6, 7, 8, 9, 10, 11, 12, 13, 14, 15] hP hD (by decide) rfl
      have hK9 := hK.sub (tys' := []) [] rfl
      rw [hQQ]
      exact W.zret (v := (1 : Int32)) hx hb hr rfl (fun t ht hW => ⟨⟨(1 : Int32), (), rfl, ⟨rfl, (by decide)⟩, by rw [ht]; exact hP9, va_K.moved hW.alike hK9, hD9⟩, hS.F ht⟩) hS.2.2 (zat zrX12_isAsker_0_ok 13 rfl)
