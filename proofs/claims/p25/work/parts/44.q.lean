noncomputable def zrX10_answer_0 : List ZR := zc 0 true (.aload_n 0) 1 (zc 1 true (.iload_n 2) 1 (zc 2 true (.iconst 0) 1 (zc 3 true (.bipush 9) 2 (zc 5 true (.invokestatic 75) 3 (zc 8 true (.ifCond .eq 11) 3 (zc 11 true (.aload_n 0) 1 (zc 12 true (.iload_n 1) 1 (zc 13 true (.invokevirtual 102) 3 (zc 16 true (.goto 4) 3 (zc 19 true (.iconst 1) 1 (zc 20 true (.invokevirtual 79) 3 (zc 23 true (.ifCond .eq 5) 3 (zc 26 true (.iconst (-1)) 1 (zc 27 true (.ireturn) 1 (zc 28 true (.iload_n 2) 1 (zc 29 false (.nop) 51 (zc 80 true (.aload_n 0) 1 (zc 81 true (.getfield 10) 3 (zc 84 true (.getfield 106) 3 (zc 87 true (.iload_n 1) 1 (zc 88 true (.iaload) 1 (zc 89 true (.ireturn) 1 (zc 90 true (.aload_n 0) 1 (zc 91 true (.getfield 10) 3 (zc 94 true (.getfield 110) 3 (zc 97 true (.iload_n 1) 1 (zc 98 true (.iaload) 1 (zc 99 true (.ireturn) 1 (zc 100 true (.aload_n 0) 1 (zc 101 true (.getfield 10) 3 (zc 104 true (.getfield 113) 3 (zc 107 true (.iload_n 1) 1 (zc 108 true (.iaload) 1 (zc 109 true (.ireturn) 1 (zc 110 true (.aload_n 0) 1 (zc 111 true (.getfield 10) 3 (zc 114 true (.getfield 116) 3 (zc 117 true (.iload_n 1) 1 (zc 118 true (.iaload) 1 (zc 119 true (.ireturn) 1 (zc 120 true (.aload_n 0) 1 (zc 121 true (.getfield 10) 3 (zc 124 true (.getfield 119) 3 (zc 127 true (.iload_n 1) 1 (zc 128 true (.iaload) 1 (zc 129 true (.ireturn) 1 (zc 130 true (.aload_n 0) 1 (zc 131 true (.getfield 10) 3 (zc 134 true (.getfield 122) 3 (zc 137 true (.iload_n 1) 1 (zc 138 true (.iaload) 1 (zc 139 true (.ireturn) 1 (zc 140 true (.aload_n 0) 1 (zc 141 true (.getfield 29) 3 (zc 144 true (.getfield 125) 3 (zc 147 true (.iload_n 1) 1 (zc 148 true (.iaload) 1 (zc 149 true (.ireturn) 1 (zc 150 true (.aload_n 0) 1 (zc 151 true (.getfield 29) 3 (zc 154 true (.getfield 125) 3 (zc 157 true (.iload_n 1) 1 (zc 158 true (.iaload) 1 ([]))))))))))))))))))))))))))))))))))))))))))))))))))))))))))))))))
theorem zrX10_answer_0_ok : zck 0 ((zby cX10_answer).drop 0) zrX10_answer_0 = true := by decide +kernel
noncomputable def zrX10_answer_1 : List ZR := zc 159 true (.ifCond .ne 8) 3 (zc 162 true (.bipush (-2)) 2 (zc 164 true (.goto 12) 3 (zc 167 true (.aload_n 0) 1 (zc 168 true (.getfield 29) 3 (zc 171 true (.getfield 128) 3 (zc 174 true (.iload_n 1) 1 (zc 175 true (.iaload) 1 (zc 176 true (.ireturn) 1 (zc 177 true (.aload_n 0) 1 (zc 178 true (.getfield 29) 3 (zc 181 true (.getfield 125) 3 (zc 184 true (.iload_n 1) 1 (zc 185 true (.iaload) 1 (zc 186 true (.ifCond .ne 8) 3 (zc 189 true (.bipush (-2)) 2 (zc 191 true (.goto 12) 3 (zc 194 true (.aload_n 0) 1 (zc 195 true (.getfield 29) 3 (zc 198 true (.getfield 131) 3 (zc 201 true (.iload_n 1) 1 (zc 202 true (.iaload) 1 (zc 203 true (.ireturn) 1 (zc 204 true (.aload_n 0) 1 (zc 205 true (.getfield 29) 3 (zc 208 true (.getfield 125) 3 (zc 211 true (.iload_n 1) 1 (zc 212 true (.iaload) 1 (zc 213 true (.iconst 1) 1 (zc 214 true (.if_icmp .ne 25) 3 (zc 217 true (.aload_n 0) 1 (zc 218 true (.getfield 10) 3 (zc 221 true (.aload_n 0) 1 (zc 222 true (.getfield 29) 3 (zc 225 true (.iload_n 1) 1 (zc 226 true (.aload_n 0) 1 (zc 227 true (.getfield 29) 3 (zc 230 true (.getfield 134) 3 (zc 233 true (.invokestatic 137) 3 (zc 236 true (.goto 5) 3 (zc 239 true (.bipush (-2)) 2 (zc 241 true (.ireturn) 1 ([]))))))))))))))))))))))))))))))))))))))))))
theorem zrX10_answer_1_ok : zck 159 ((zby cX10_answer).drop 159) zrX10_answer_1 = true := by decide +kernel
theorem dX10_answer_29 : decode cX10_answer 29 = .ok (.tableswitch 175 0 8 #[51, 61, 71, 81, 91, 101, 111, 121, 148], 51) := by decide +kernel
def vfX10_answer : List Cond := List.cons (.code yX10_answer cX10_answer 3 (some .int)) (apW [.methodLink RX10 75 yX10_within, .static yX10_within, .initialized RX10, .methodLink RX10 79 yX10_refused, .instanceMethod yX10_refused, .selects RX10 yX10_refused yX10_refused, .fieldLink RX10 10 "HookPier" "plan" "LHookPier$Plan;", .fieldLink RX10 106 "HookPier$Plan" "kind" "[I", .fieldLink RX10 110 "HookPier$Plan" "at" "[I", .fieldLink RX10 113 "HookPier$Plan" "depth" "[I", .fieldLink RX10 116 "HookPier$Plan" "hunger" "[I", .fieldLink RX10 119 "HookPier$Plan" "likes" "[I", .fieldLink RX10 122 "HookPier$Plan" "told" "[I", .fieldLink RX10 29 "HookPier" "now" "LHookPier$Now;", .fieldLink RX10 125 "HookPier$Now" "stage" "[I", .fieldLink RX10 128 "HookPier$Now" "landedOn" "[I", .fieldLink RX10 131 "HookPier$Now" "landedBy" "[I", .fieldLink RX10 134 "HookPier$Now" "today" "I", .methodLink RX10 137 yX3_worthOn, .static yX3_worthOn, .initialized RX3, .methodLink RX10 102 yX10_answerTrouble, .instanceMethod yX10_answerTrouble, .selects RX10 yX10_answerTrouble yX10_answerTrouble] (apW wsX100 (apW wsX60 (apW wsX40 (apW vfX10_within (apW vfX10_refused (apW vfX3_worthOn (vfX10_answerTrouble))))))))
theorem ifX10_answer_X10 : ∀ w ∈ wsX100, w ∈ vfX10_answer := fun _ h => (List.mem_cons_of_mem _ (List.mem_append_right _ (List.mem_append_left _ h)))
theorem ifX10_answer_X6 : ∀ w ∈ wsX60, w ∈ vfX10_answer := fun _ h => (List.mem_cons_of_mem _ (List.mem_append_right _ (List.mem_append_right _ (List.mem_append_left _ h))))
theorem ifX10_answer_X4 : ∀ w ∈ wsX40, w ∈ vfX10_answer := fun _ h => (List.mem_cons_of_mem _ (List.mem_append_right _ (List.mem_append_right _ (List.mem_append_right _ (List.mem_append_left _ h)))))
theorem qfX10_answer : Good vfX10_answer := gd_cons (by decide +kernel) (gd_app (gd_dec (by decide +kernel) : Good [.methodLink RX10 75 yX10_within, .static yX10_within, .initialized RX10, .methodLink RX10 79 yX10_refused, .instanceMethod yX10_refused, .selects RX10 yX10_refused yX10_refused, .fieldLink RX10 10 "HookPier" "plan" "LHookPier$Plan;", .fieldLink RX10 106 "HookPier$Plan" "kind" "[I", .fieldLink RX10 110 "HookPier$Plan" "at" "[I", .fieldLink RX10 113 "HookPier$Plan" "depth" "[I", .fieldLink RX10 116 "HookPier$Plan" "hunger" "[I", .fieldLink RX10 119 "HookPier$Plan" "likes" "[I", .fieldLink RX10 122 "HookPier$Plan" "told" "[I", .fieldLink RX10 29 "HookPier" "now" "LHookPier$Now;", .fieldLink RX10 125 "HookPier$Now" "stage" "[I", .fieldLink RX10 128 "HookPier$Now" "landedOn" "[I", .fieldLink RX10 131 "HookPier$Now" "landedBy" "[I", .fieldLink RX10 134 "HookPier$Now" "today" "I", .methodLink RX10 137 yX3_worthOn, .static yX3_worthOn, .initialized RX3, .methodLink RX10 102 yX10_answerTrouble, .instanceMethod yX10_answerTrouble, .selects RX10 yX10_answerTrouble yX10_answerTrouble]) (gd_app qsX10 (gd_app qsX6 (gd_app qsX4 (gd_app qfX10_within (gd_app qfX10_refused (gd_app qfX3_worthOn qfX10_answerTrouble)))))))
theorem gfX10_answer_0 : GoodIn vfX10_answer (va_wsS RX10 75 yX10_within vfX10_within) := goodIn_app (goodIn_r [.methodLink RX10 75 yX10_within, .static yX10_within, .initialized RX10] [1, 2, 3] rfl (by decide +kernel)) (goodIn_m (fun _ h => (List.mem_cons_of_mem _ (List.mem_append_right _ (List.mem_append_right _ (List.mem_append_right _ (List.mem_append_right _ (List.mem_append_left _ h))))))) qfX10_within)
theorem gfX10_answer_1 : GoodIn vfX10_answer (wsV RX10 79 RX10 yX10_refused vfX10_refused) := goodIn_app (goodIn_r [.methodLink RX10 79 yX10_refused, .instanceMethod yX10_refused, .selects RX10 yX10_refused yX10_refused, .initialized RX10] [4, 5, 6, 3] rfl (by decide +kernel)) (goodIn_m (fun _ h => (List.mem_cons_of_mem _ (List.mem_append_right _ (List.mem_append_right _ (List.mem_append_right _ (List.mem_append_right _ (List.mem_append_right _ (List.mem_append_left _ h)))))))) qfX10_refused)
theorem gfX10_answer_2 : GoodIn vfX10_answer (va_wsS RX10 137 yX3_worthOn vfX3_worthOn) := goodIn_app (goodIn_r [.methodLink RX10 137 yX3_worthOn, .static yX3_worthOn, .initialized RX3] [19, 20, 21] rfl (by decide +kernel)) (goodIn_m (fun _ h => (List.mem_cons_of_mem _ (List.mem_append_right _ (List.mem_append_right _ (List.mem_append_right _ (List.mem_append_right _ (List.mem_append_right _ (List.mem_append_right _ (List.mem_append_left _ h))))))))) qfX3_worthOn)
theorem gfX10_answer_3 : GoodIn vfX10_answer (wsV RX10 102 RX10 yX10_answerTrouble vfX10_answerTrouble) := goodIn_app (goodIn_r [.methodLink RX10 102 yX10_answerTrouble, .instanceMethod yX10_answerTrouble, .selects RX10 yX10_answerTrouble yX10_answerTrouble, .initialized RX10] [22, 23, 24, 3] rfl (by decide +kernel)) (goodIn_m (fun _ h => (List.mem_cons_of_mem _ (List.mem_append_right _ (List.mem_append_right _ (List.mem_append_right _ (List.mem_append_right _ (List.mem_append_right _ (List.mem_append_right _ (List.mem_append_right _ h))))))))) qfX10_answerTrouble)
set_option maxHeartbeats 2000000 in
set_option maxRecDepth 100000 in
theorem kfX10_answer (l : Launch) (dC : Nat → ClassId) (dI : Nat → Nat → Nat) (a0 : Nat) (k1 : Int32) (k2 : Int32) (a3 : Nat) (a4 : Nat) (up : Nat → Nat) (kp : Nat → ClassId) (un : Nat → Nat) (kn : Nat → ClassId) (x_x : TX10_x) (g10 : Value) (g11 : Value) (g12 : Value) (g13 : Value) (g14 : Value) (g15 : Value) (p_p : TX6_p) (n_n : TX4_n) (sz : Nat) (out : (Int32 × TX10_x)) (h : f_X10_answer k1 k2 x_x p_p n_n = some out) : KCi l yX10_answer vfX10_answer ({ frames := 3, cells := 0, slots := 0, locals := 66 }) (dC, dI) [.ref a0, .int k1, .int k2] sz ((a0, .inr (7, [.ref a3, g10, g11, .ref a4, g12, g13, g14, g15, .int x_x.1, .int x_x.2])) :: bX6 a3 up kp p_p (bX4 a4 un kn n_n [])) (tX6 kp (tX4 kn ([]))) (fun (r : Int32) _ => r = out.1) ((a0, .inr (7, [.ref a3, g10, g11, .ref a4, g12, g13, g14, g15, .int out.2.1, .int out.2.2])) :: bX6 a3 up kp p_p (bX4 a4 un kn n_n [])) 0 0 := by
  refine Met.ofW (cc := cX10_answer) (maxL := 3) (ret := (some .int)) (by decide) rfl ?_
  intro p e s m args below meth c s₁ B0 hml hv
  obtain ⟨rfl, hsz, hP, hK, hD0, hN⟩ := hv
  have hx := B0.exec
  have hb := B0.bytes
  have hr := B0.returns
  have hts := atoms_spec (ws := vfX10_answer) B0.pre
  have hown : s.vm.findClass RX10 = some m.cls := findClass_of_methodNamed B0.named
  have hlocks := B0.notSynchronized
  subst hsz
  have hD := hD0.self (sz := s.heap.size)
  generalize hAe : va_A ((a0, .inr (7, [.ref a3, g10, g11, .ref a4, g12, g13, g14, g15, .int x_x.1, .int x_x.2])) :: bX6 a3 up kp p_p (bX4 a4 un kn n_n [])) s.heap.size = A at hD ⊢
  have hA : ∀ q : Nat, s.heap.size ≤ q → A q := fun q h => by rw [← hAe]; exact Or.inr h
  have hS : va_S A s.heap s.heap [] := va_S.rf
  have hP : va_P (dC, dI) vwCl ((a0, .inr (7, [.ref a3, g10, g11, .ref a4, g12, g13, g14, g15, .int x_x.1, .int x_x.2])) :: bX6 a3 up kp p_p (bX4 a4 un kn n_n [])) s.heap := hP
  have hl := lv_entry ([.ref a0, .int k1, .int k2]) (n := 3) (Nat.le_of_ble_eq_true rfl)
  rw [lg_entry_eq]
  generalize (lg_sl ([.ref a0, .int k1, .int k2]) ++ List.replicate (3 - (lg_sl ([.ref a0, .int k1, .int k2])).length) Slot.unset).toArray = ls at hl ⊢
  have hl : lv_has ls 3 [(0, .ref a0), (1, .int k1), (2, .int k2)] := hl
  refine W_q (fun QQ hQQ => ?_)
  rw [f_X10_answer] at h
  refine lv_aload_n hx hb (zat zrX10_answer_0_ok 0 rfl) rfl (lv_at hl 0 rfl) ?_
  refine lv_iload_n hx hb (zat zrX10_answer_0_ok 1 rfl) rfl (lv_at hl 2 rfl) ?_
  refine lv_iconst (v := 0) hx hb (zat zrX10_answer_0_ok 2 rfl) (by decide) ?_
  refine lv_bipush (v := 9) hx hb (zat zrX10_answer_0_ok 3 rfl) (by decide) ?_
  obtain ⟨o5, eo5⟩ : ∃ o, o = f_X10_within k2 (0 : Int32) (9 : Int32) := ⟨_, rfl⟩
  have h := nm_of h o5 eo5
  refine ck_i (wc := []) (wr := ((a0, .inr (7, [.ref a3, g10, g11, .ref a4, g12, g13, g14, g15, .int x_x.1, .int x_x.2])) :: bX6 a3 up kp p_p (bX4 a4 un kn n_n []))) hP hD hK hS hA [] [0, 1, 2, 3, 4, 5, 6, 7, 8, 9, 10, 11, 12, 13, 14, 15] rfl rfl (by decide) (by decide) (by decide) (fun hPc hDc => (va_runS (As := [.int k2, .int 0, .int 9]) (rest := [.ref a0]) ⟨hx, hb, hml, hown, hts⟩ (kfX10_within l dC dI k2 (0 : Int32) (9 : Int32) s.heap.size o5 eo5.symm) (va_cwS 3 hts gfX10_answer_0 rfl rfl rfl (by decide +kernel) ⟨(Nat.le_of_ble_eq_true rfl), (Nat.le_of_ble_eq_true rfl)⟩) (PS hPc (hK.sub (tys' := ([])) [] rfl) hDc hN) rfl rfl hl.1 rfl (lv_room (Nat.le_of_ble_eq_true rfl)) (zat zrX10_answer_0_ok 4 rfl) ⟨(Nat.le_of_ble_eq_true rfl), (Nat.le_of_ble_eq_true rfl)⟩)) (fun r5 _ H locs hw hP hD _ hS => ?_)
  obtain ⟨hw, br5⟩ := hw
  obtain rfl := hw.symm
  obtain ⟨hP, hD⟩ := pd_mk ((a0, .inr (7, [.ref a3, g10, g11, .ref a4, g12, g13, g14, g15, .int x_x.1, .int x_x.2])) :: bX6 a3 up kp p_p (bX4 a4 un kn n_n [])) hP hD
  have J20 : ∀ (v20_t1 : Int32) (H : Heap) (locs : List Loc) (ls : Array Slot), f_X10_answer_J20 k1 k2 x_x p_p n_n v20_t1 = some out → va_P (dC, dI) vwCl ((a0, .inr (7, [.ref a3, g10, g11, .ref a4, g12, g13, g14, g15, .int x_x.1, .int x_x.2])) :: bX6 a3 up kp p_p (bX4 a4 un kn n_n [])) H → va_D A ((a0, .inr (7, [.ref a3, g10, g11, .ref a4, g12, g13, g14, g15, .int x_x.1, .int x_x.2])) :: bX6 a3 up kp p_p (bX4 a4 un kn n_n [])) → va_S A s.heap H locs → lv_has ls 3 [(0, .ref a0), (1, .int k1), (2, .int k2)] → W p l e (headSpec vfX10_answer { frames := 3, cells := 0, slots := 0, locals := 66 }).room s m ([.ref a0, .int k1, .int k2]).toArray below meth c H locs 0 0 QQ (F0 m 20 ls [.int v20_t1, .ref a0]) := by
    intro v20_t1 H locs ls h  hP hD hS hl
    rw [f_X10_answer_J20] at h
    obtain ⟨o20, eo20⟩ : ∃ o, o = f_X10_refused v20_t1 x_x := ⟨_, rfl⟩
    have h := nm_of h o20 eo20
    refine ck_i (wc := ([(a0, .inr (7, [.ref a3, g10, g11, .ref a4, g12, g13, g14, g15, .int x_x.1, .int x_x.2]))])) (wr := (bX6 a3 up kp p_p (bX4 a4 un kn n_n []))) hP hD hK hS hA [0] [1, 2, 3, 4, 5, 6, 7, 8, 9, 10, 11, 12, 13, 14, 15] rfl rfl (by decide) (by decide) (by decide) (fun hPc hDc => (va_runV (As := [.int v20_t1]) (rest := []) ⟨hx, hb, hml, hown, hts⟩ (kfX10_refused l dC dI a0 v20_t1 x_x (.ref a3) (g10) (g11) (.ref a4) (g12) (g13) (g14) (g15) H.size o20 eo20.symm) (cwV 1 hts gfX10_answer_1 rfl rfl rfl (by decide +kernel) ⟨(Nat.le_of_ble_eq_true rfl), (Nat.le_of_ble_eq_true rfl)⟩) (PV hPc (hK.sub (tys' := ([])) [] rfl) hDc hN 0 rfl rfl) rfl rfl hl.1 rfl (lv_room (Nat.le_of_ble_eq_true rfl)) (zat zrX10_answer_0_ok 11 rfl) ⟨(Nat.le_of_ble_eq_true rfl), (Nat.le_of_ble_eq_true rfl)⟩)) (fun r20 _ H locs hw hP hD _ hS => ?_)
    obtain ⟨hw, br20⟩ := hw
    obtain rfl := hw
    obtain ⟨hP, hD⟩ := pd_mk (bX6 a3 up kp p_p (bX4 a4 un kn n_n ([(a0, .inr (7, [.ref a3, g10, g11, .ref a4, g12, g13, g14, g15, .int o20.2.1, .int o20.2.2]))]))) hP hD
    refine lv_if_eq (tgt := 28) hx hb (zat zrX10_answer_0_ok 12 rfl) (by decide) (fun c23 => ?_) (fun c23 => ?_)
    · have h := (if_pos c23).symm.trans h
      refine lv_iload_n hx hb (zat zrX10_answer_0_ok 15 rfl) rfl (lv_at hl 2 rfl) ?_
      by_cases c29_0 : k2 = 0
      · have h := (if_pos c29_0).symm.trans h
        refine lv_tableIn (tgt := 80) hx hb dX10_answer_29 (by rw [c29_0] <;> decide) (by rw [c29_0] <;> decide) (by rw [c29_0] <;> rfl) (by decide) ?_
        refine lv_aload_n hx hb (zat zrX10_answer_0_ok 17 rfl) rfl (lv_at hl 0 rfl) ?_
        refine va_get (D := (dC, dI)) (ci := 7) (v := .ref a3) (C := RX10) (T := TX10) (N := 10) hx hb hts ifX10_answer_X10 hown hK hP 15 rfl rfl 0 (by decide) (hts (.fieldLink RX10 10 "HookPier" "plan" "LHookPier$Plan;") (List.mem_of_getElem? (i := 7) rfl)) (fun _ h9 => h9) rfl (zat zrX10_answer_0_ok 18 rfl) ?_
        refine va_get (D := (dC, dI)) (ci := 4) (v := .ref (up 1)) (C := RX6) (T := TX6) (N := 18) hx hb hts ifX10_answer_X6 hown hK hP 0 rfl rfl 10 (by decide) (hts (.fieldLink RX10 106 "HookPier$Plan" "kind" "[I") (List.mem_of_getElem? (i := 8) rfl)) (fun _ h9 => h9) rfl (zat zrX10_answer_0_ok 19 rfl) ?_
        refine lv_iload_n hx hb (zat zrX10_answer_0_ok 20 rfl) rfl (lv_at hl 1 rfl) ?_
        obtain ⟨hg88, h⟩ := gA_of h
        refine va_iald hx hb hK hP 2 1 rfl rfl hg88 (zat zrX10_answer_0_ok 21 rfl) ?_
        obtain rfl := Option.some.inj h
        obtain ⟨hP9, hD9⟩ := pd_sub ((a0, .inr (7, [.ref a3, g10, g11, .ref a4, g12, g13, g14, g15, .int o20.2.1, .int o20.2.2])) :: bX6 a3 up kp p_p (bX4 a4 un kn n_n [])) [15, 0, 1, 2, 3, 4, 5, 6, 7, 8, 9, 10, 11, 12, 13, 14] hP hD (by decide) rfl
        have hK9 := hK.sub (tys' := []) [] rfl
        rw [hQQ]
        exact W.iret (v := (p_p.2.2.2.2.2.2.2.2.2.2.1 (k1).toNatClampNeg)) hx hb hr (fun t ht hW => ⟨⟨(p_p.2.2.2.2.2.2.2.2.2.2.1 (k1).toNatClampNeg), (), rfl, rfl, by rw [ht]; exact hP9, va_K.moved hW.alike hK9, hD9⟩, hS.F ht⟩) hS.2.2 (zat zrX10_answer_0_ok 22 rfl)
      have h := (if_neg c29_0).symm.trans h
      by_cases c29_1 : k2 = 1
      · have h := (if_pos c29_1).symm.trans h
        refine lv_tableIn (tgt := 90) hx hb dX10_answer_29 (by rw [c29_1] <;> decide) (by rw [c29_1] <;> decide) (by rw [c29_1] <;> rfl) (by decide) ?_
        refine lv_aload_n hx hb (zat zrX10_answer_0_ok 23 rfl) rfl (lv_at hl 0 rfl) ?_
        refine va_get (D := (dC, dI)) (ci := 7) (v := .ref a3) (C := RX10) (T := TX10) (N := 10) hx hb hts ifX10_answer_X10 hown hK hP 15 rfl rfl 0 (by decide) (hts (.fieldLink RX10 10 "HookPier" "plan" "LHookPier$Plan;") (List.mem_of_getElem? (i := 7) rfl)) (fun _ h9 => h9) rfl (zat zrX10_answer_0_ok 24 rfl) ?_
        refine va_get (D := (dC, dI)) (ci := 4) (v := .ref (up 2)) (C := RX6) (T := TX6) (N := 18) hx hb hts ifX10_answer_X6 hown hK hP 0 rfl rfl 11 (by decide) (hts (.fieldLink RX10 110 "HookPier$Plan" "at" "[I") (List.mem_of_getElem? (i := 9) rfl)) (fun _ h9 => h9) rfl (zat zrX10_answer_0_ok 25 rfl) ?_
        refine lv_iload_n hx hb (zat zrX10_answer_0_ok 26 rfl) rfl (lv_at hl 1 rfl) ?_
        obtain ⟨hg98, h⟩ := gA_of h
        refine va_iald hx hb hK hP 3 2 rfl rfl hg98 (zat zrX10_answer_0_ok 27 rfl) ?_
        obtain rfl := Option.some.inj h
        obtain ⟨hP9, hD9⟩ := pd_sub ((a0, .inr (7, [.ref a3, g10, g11, .ref a4, g12, g13, g14, g15, .int o20.2.1, .int o20.2.2])) :: bX6 a3 up kp p_p (bX4 a4 un kn n_n [])) [15, 0, 1, 2, 3, 4, 5, 6, 7, 8, 9, 10, 11, 12, 13, 14] hP hD (by decide) rfl
        have hK9 := hK.sub (tys' := []) [] rfl
        rw [hQQ]
        exact W.iret (v := (p_p.2.2.2.2.2.2.2.2.2.2.2.1 (k1).toNatClampNeg)) hx hb hr (fun t ht hW => ⟨⟨(p_p.2.2.2.2.2.2.2.2.2.2.2.1 (k1).toNatClampNeg), (), rfl, rfl, by rw [ht]; exact hP9, va_K.moved hW.alike hK9, hD9⟩, hS.F ht⟩) hS.2.2 (zat zrX10_answer_0_ok 28 rfl)
      have h := (if_neg c29_1).symm.trans h
      by_cases c29_2 : k2 = 2
      · have h := (if_pos c29_2).symm.trans h
        refine lv_tableIn (tgt := 100) hx hb dX10_answer_29 (by rw [c29_2] <;> decide) (by rw [c29_2] <;> decide) (by rw [c29_2] <;> rfl) (by decide) ?_
        refine lv_aload_n hx hb (zat zrX10_answer_0_ok 29 rfl) rfl (lv_at hl 0 rfl) ?_
        refine va_get (D := (dC, dI)) (ci := 7) (v := .ref a3) (C := RX10) (T := TX10) (N := 10) hx hb hts ifX10_answer_X10 hown hK hP 15 rfl rfl 0 (by decide) (hts (.fieldLink RX10 10 "HookPier" "plan" "LHookPier$Plan;") (List.mem_of_getElem? (i := 7) rfl)) (fun _ h9 => h9) rfl (zat zrX10_answer_0_ok 30 rfl) ?_
        refine va_get (D := (dC, dI)) (ci := 4) (v := .ref (up 3)) (C := RX6) (T := TX6) (N := 18) hx hb hts ifX10_answer_X6 hown hK hP 0 rfl rfl 12 (by decide) (hts (.fieldLink RX10 113 "HookPier$Plan" "depth" "[I") (List.mem_of_getElem? (i := 10) rfl)) (fun _ h9 => h9) rfl (zat zrX10_answer_0_ok 31 rfl) ?_
        refine lv_iload_n hx hb (zat zrX10_answer_0_ok 32 rfl) rfl (lv_at hl 1 rfl) ?_
        obtain ⟨hg108, h⟩ := gA_of h
        refine va_iald hx hb hK hP 4 3 rfl rfl hg108 (zat zrX10_answer_0_ok 33 rfl) ?_
        obtain rfl := Option.some.inj h
        obtain ⟨hP9, hD9⟩ := pd_sub ((a0, .inr (7, [.ref a3, g10, g11, .ref a4, g12, g13, g14, g15, .int o20.2.1, .int o20.2.2])) :: bX6 a3 up kp p_p (bX4 a4 un kn n_n [])) [15, 0, 1, 2, 3, 4, 5, 6, 7, 8, 9, 10, 11, 12, 13, 14] hP hD (by decide) rfl
        have hK9 := hK.sub (tys' := []) [] rfl
        rw [hQQ]
        exact W.iret (v := (p_p.2.2.2.2.2.2.2.2.2.2.2.2.1 (k1).toNatClampNeg)) hx hb hr (fun t ht hW => ⟨⟨(p_p.2.2.2.2.2.2.2.2.2.2.2.2.1 (k1).toNatClampNeg), (), rfl, rfl, by rw [ht]; exact hP9, va_K.moved hW.alike hK9, hD9⟩, hS.F ht⟩) hS.2.2 (zat zrX10_answer_0_ok 34 rfl)
      have h := (if_neg c29_2).symm.trans h
      by_cases c29_3 : k2 = 3
      · have h := (if_pos c29_3).symm.trans h
        refine lv_tableIn (tgt := 110) hx hb dX10_answer_29 (by rw [c29_3] <;> decide) (by rw [c29_3] <;> decide) (by rw [c29_3] <;> rfl) (by decide) ?_
        refine lv_aload_n hx hb (zat zrX10_answer_0_ok 35 rfl) rfl (lv_at hl 0 rfl) ?_
        refine va_get (D := (dC, dI)) (ci := 7) (v := .ref a3) (C := RX10) (T := TX10) (N := 10) hx hb hts ifX10_answer_X10 hown hK hP 15 rfl rfl 0 (by decide) (hts (.fieldLink RX10 10 "HookPier" "plan" "LHookPier$Plan;") (List.mem_of_getElem? (i := 7) rfl)) (fun _ h9 => h9) rfl (zat zrX10_answer_0_ok 36 rfl) ?_
        refine va_get (D := (dC, dI)) (ci := 4) (v := .ref (up 4)) (C := RX6) (T := TX6) (N := 18) hx hb hts ifX10_answer_X6 hown hK hP 0 rfl rfl 13 (by decide) (hts (.fieldLink RX10 116 "HookPier$Plan" "hunger" "[I") (List.mem_of_getElem? (i := 11) rfl)) (fun _ h9 => h9) rfl (zat zrX10_answer_0_ok 37 rfl) ?_
        refine lv_iload_n hx hb (zat zrX10_answer_0_ok 38 rfl) rfl (lv_at hl 1 rfl) ?_
        obtain ⟨hg118, h⟩ := gA_of h
        refine va_iald hx hb hK hP 5 4 rfl rfl hg118 (zat zrX10_answer_0_ok 39 rfl) ?_
        obtain rfl := Option.some.inj h
        obtain ⟨hP9, hD9⟩ := pd_sub ((a0, .inr (7, [.ref a3, g10, g11, .ref a4, g12, g13, g14, g15, .int o20.2.1, .int o20.2.2])) :: bX6 a3 up kp p_p (bX4 a4 un kn n_n [])) [15, 0, 1, 2, 3, 4, 5, 6, 7, 8, 9, 10, 11, 12, 13, 14] hP hD (by decide) rfl
        have hK9 := hK.sub (tys' := []) [] rfl
        rw [hQQ]
        exact W.iret (v := (p_p.2.2.2.2.2.2.2.2.2.2.2.2.2.1 (k1).toNatClampNeg)) hx hb hr (fun t ht hW => ⟨⟨(p_p.2.2.2.2.2.2.2.2.2.2.2.2.2.1 (k1).toNatClampNeg), (), rfl, rfl, by rw [ht]; exact hP9, va_K.moved hW.alike hK9, hD9⟩, hS.F ht⟩) hS.2.2 (zat zrX10_answer_0_ok 40 rfl)
      have h := (if_neg c29_3).symm.trans h
      by_cases c29_4 : k2 = 4
      · have h := (if_pos c29_4).symm.trans h
        refine lv_tableIn (tgt := 120) hx hb dX10_answer_29 (by rw [c29_4] <;> decide) (by rw [c29_4] <;> decide) (by rw [c29_4] <;> rfl) (by decide) ?_
        refine lv_aload_n hx hb (zat zrX10_answer_0_ok 41 rfl) rfl (lv_at hl 0 rfl) ?_
        refine va_get (D := (dC, dI)) (ci := 7) (v := .ref a3) (C := RX10) (T := TX10) (N := 10) hx hb hts ifX10_answer_X10 hown hK hP 15 rfl rfl 0 (by decide) (hts (.fieldLink RX10 10 "HookPier" "plan" "LHookPier$Plan;") (List.mem_of_getElem? (i := 7) rfl)) (fun _ h9 => h9) rfl (zat zrX10_answer_0_ok 42 rfl) ?_
        refine va_get (D := (dC, dI)) (ci := 4) (v := .ref (up 5)) (C := RX6) (T := TX6) (N := 18) hx hb hts ifX10_answer_X6 hown hK hP 0 rfl rfl 14 (by decide) (hts (.fieldLink RX10 119 "HookPier$Plan" "likes" "[I") (List.mem_of_getElem? (i := 12) rfl)) (fun _ h9 => h9) rfl (zat zrX10_answer_0_ok 43 rfl) ?_
        refine lv_iload_n hx hb (zat zrX10_answer_0_ok 44 rfl) rfl (lv_at hl 1 rfl) ?_
        obtain ⟨hg128, h⟩ := gA_of h
        refine va_iald hx hb hK hP 6 5 rfl rfl hg128 (zat zrX10_answer_0_ok 45 rfl) ?_
        obtain rfl := Option.some.inj h
        obtain ⟨hP9, hD9⟩ := pd_sub ((a0, .inr (7, [.ref a3, g10, g11, .ref a4, g12, g13, g14, g15, .int o20.2.1, .int o20.2.2])) :: bX6 a3 up kp p_p (bX4 a4 un kn n_n [])) [15, 0, 1, 2, 3, 4, 5, 6, 7, 8, 9, 10, 11, 12, 13, 14] hP hD (by decide) rfl
        have hK9 := hK.sub (tys' := []) [] rfl
        rw [hQQ]
        exact W.iret (v := (p_p.2.2.2.2.2.2.2.2.2.2.2.2.2.2.1 (k1).toNatClampNeg)) hx hb hr (fun t ht hW => ⟨⟨(p_p.2.2.2.2.2.2.2.2.2.2.2.2.2.2.1 (k1).toNatClampNeg), (), rfl, rfl, by rw [ht]; exact hP9, va_K.moved hW.alike hK9, hD9⟩, hS.F ht⟩) hS.2.2 (zat zrX10_answer_0_ok 46 rfl)
      have h := (if_neg c29_4).symm.trans h
      by_cases c29_5 : k2 = 5
      · have h := (if_pos c29_5).symm.trans h
        refine lv_tableIn (tgt := 130) hx hb dX10_answer_29 (by rw [c29_5] <;> decide) (by rw [c29_5] <;> decide) (by rw [c29_5] <;> rfl) (by decide) ?_
        refine lv_aload_n hx hb (zat zrX10_answer_0_ok 47 rfl) rfl (lv_at hl 0 rfl) ?_
        refine va_get (D := (dC, dI)) (ci := 7) (v := .ref a3) (C := RX10) (T := TX10) (N := 10) hx hb hts ifX10_answer_X10 hown hK hP 15 rfl rfl 0 (by decide) (hts (.fieldLink RX10 10 "HookPier" "plan" "LHookPier$Plan;") (List.mem_of_getElem? (i := 7) rfl)) (fun _ h9 => h9) rfl (zat zrX10_answer_0_ok 48 rfl) ?_
        refine va_get (D := (dC, dI)) (ci := 4) (v := .ref (up 6)) (C := RX6) (T := TX6) (N := 18) hx hb hts ifX10_answer_X6 hown hK hP 0 rfl rfl 15 (by decide) (hts (.fieldLink RX10 122 "HookPier$Plan" "told" "[I") (List.mem_of_getElem? (i := 13) rfl)) (fun _ h9 => h9) rfl (zat zrX10_answer_0_ok 49 rfl) ?_
        refine lv_iload_n hx hb (zat zrX10_answer_0_ok 50 rfl) rfl (lv_at hl 1 rfl) ?_
        obtain ⟨hg138, h⟩ := gA_of h
        refine va_iald hx hb hK hP 7 6 rfl rfl hg138 (zat zrX10_answer_0_ok 51 rfl) ?_
        obtain rfl := Option.some.inj h
        obtain ⟨hP9, hD9⟩ := pd_sub ((a0, .inr (7, [.ref a3, g10, g11, .ref a4, g12, g13, g14, g15, .int o20.2.1, .int o20.2.2])) :: bX6 a3 up kp p_p (bX4 a4 un kn n_n [])) [15, 0, 1, 2, 3, 4, 5, 6, 7, 8, 9, 10, 11, 12, 13, 14] hP hD (by decide) rfl
        have hK9 := hK.sub (tys' := []) [] rfl
        rw [hQQ]
        exact W.iret (v := (p_p.2.2.2.2.2.2.2.2.2.2.2.2.2.2.2.1 (k1).toNatClampNeg)) hx hb hr (fun t ht hW => ⟨⟨(p_p.2.2.2.2.2.2.2.2.2.2.2.2.2.2.2.1 (k1).toNatClampNeg), (), rfl, rfl, by rw [ht]; exact hP9, va_K.moved hW.alike hK9, hD9⟩, hS.F ht⟩) hS.2.2 (zat zrX10_answer_0_ok 52 rfl)
      have h := (if_neg c29_5).symm.trans h
      by_cases c29_6 : k2 = 6
      · have h := (if_pos c29_6).symm.trans h
        refine lv_tableIn (tgt := 140) hx hb dX10_answer_29 (by rw [c29_6] <;> decide) (by rw [c29_6] <;> decide) (by rw [c29_6] <;> rfl) (by decide) ?_
        refine lv_aload_n hx hb (zat zrX10_answer_0_ok 53 rfl) rfl (lv_at hl 0 rfl) ?_
        refine va_get (D := (dC, dI)) (ci := 7) (v := .ref a4) (C := RX10) (T := TX10) (N := 10) hx hb hts ifX10_answer_X10 hown hK hP 15 rfl rfl 3 (by decide) (hts (.fieldLink RX10 29 "HookPier" "now" "LHookPier$Now;") (List.mem_of_getElem? (i := 14) rfl)) (fun _ h9 => h9) rfl (zat zrX10_answer_0_ok 54 rfl) ?_
        refine va_get (D := (dC, dI)) (ci := 3) (v := .ref (un 0)) (C := RX4) (T := TX4) (N := 7) hx hb hts ifX10_answer_X4 hown hK hP 10 rfl rfl 3 (by decide) (hts (.fieldLink RX10 125 "HookPier$Now" "stage" "[I") (List.mem_of_getElem? (i := 15) rfl)) (fun _ h9 => h9) rfl (zat zrX10_answer_0_ok 55 rfl) ?_
        refine lv_iload_n hx hb (zat zrX10_answer_0_ok 56 rfl) rfl (lv_at hl 1 rfl) ?_
        obtain ⟨hg148, h⟩ := gA_of h
        refine va_iald hx hb hK hP 11 9 rfl rfl hg148 (zat zrX10_answer_0_ok 57 rfl) ?_
        obtain rfl := Option.some.inj h
        obtain ⟨hP9, hD9⟩ := pd_sub ((a0, .inr (7, [.ref a3, g10, g11, .ref a4, g12, g13, g14, g15, .int o20.2.1, .int o20.2.2])) :: bX6 a3 up kp p_p (bX4 a4 un kn n_n [])) [15, 0, 1, 2, 3, 4, 5, 6, 7, 8, 9, 10, 11, 12, 13, 14] hP hD (by decide) rfl
        have hK9 := hK.sub (tys' := []) [] rfl
        rw [hQQ]
        exact W.iret (v := (n_n.2.2.2.1 (k1).toNatClampNeg)) hx hb hr (fun t ht hW => ⟨⟨(n_n.2.2.2.1 (k1).toNatClampNeg), (), rfl, rfl, by rw [ht]; exact hP9, va_K.moved hW.alike hK9, hD9⟩, hS.F ht⟩) hS.2.2 (zat zrX10_answer_0_ok 58 rfl)
      have h := (if_neg c29_6).symm.trans h
      by_cases c29_7 : k2 = 7
      · have h := (if_pos c29_7).symm.trans h
        refine lv_tableIn (tgt := 150) hx hb dX10_answer_29 (by rw [c29_7] <;> decide) (by rw [c29_7] <;> decide) (by rw [c29_7] <;> rfl) (by decide) ?_
        refine lv_aload_n hx hb (zat zrX10_answer_0_ok 59 rfl) rfl (lv_at hl 0 rfl) ?_
        refine va_get (D := (dC, dI)) (ci := 7) (v := .ref a4) (C := RX10) (T := TX10) (N := 10) hx hb hts ifX10_answer_X10 hown hK hP 15 rfl rfl 3 (by decide) (hts (.fieldLink RX10 29 "HookPier" "now" "LHookPier$Now;") (List.mem_of_getElem? (i := 14) rfl)) (fun _ h9 => h9) rfl (zat zrX10_answer_0_ok 60 rfl) ?_
        refine va_get (D := (dC, dI)) (ci := 3) (v := .ref (un 0)) (C := RX4) (T := TX4) (N := 7) hx hb hts ifX10_answer_X4 hown hK hP 10 rfl rfl 3 (by decide) (hts (.fieldLink RX10 125 "HookPier$Now" "stage" "[I") (List.mem_of_getElem? (i := 15) rfl)) (fun _ h9 => h9) rfl (zat zrX10_answer_0_ok 61 rfl) ?_
        refine lv_iload_n hx hb (zat zrX10_answer_0_ok 62 rfl) rfl (lv_at hl 1 rfl) ?_
        obtain ⟨hg158, h⟩ := gA_of h
        refine va_iald hx hb hK hP 11 9 rfl rfl hg158 (zat zrX10_answer_0_ok 63 rfl) ?_
        refine lv_if_ne (tgt := 167) hx hb (zat zrX10_answer_1_ok 0 rfl) (by decide) (fun c159 => ?_) (fun c159 => ?_)
        · have h := (if_neg c159).symm.trans h
          refine lv_aload_n hx hb (zat zrX10_answer_1_ok 3 rfl) rfl (lv_at hl 0 rfl) ?_
          refine va_get (D := (dC, dI)) (ci := 7) (v := .ref a4) (C := RX10) (T := TX10) (N := 10) hx hb hts ifX10_answer_X10 hown hK hP 15 rfl rfl 3 (by decide) (hts (.fieldLink RX10 29 "HookPier" "now" "LHookPier$Now;") (List.mem_of_getElem? (i := 14) rfl)) (fun _ h9 => h9) rfl (zat zrX10_answer_1_ok 4 rfl) ?_
          refine va_get (D := (dC, dI)) (ci := 3) (v := .ref (un 1)) (C := RX4) (T := TX4) (N := 7) hx hb hts ifX10_answer_X4 hown hK hP 10 rfl rfl 4 (by decide) (hts (.fieldLink RX10 128 "HookPier$Now" "landedOn" "[I") (List.mem_of_getElem? (i := 16) rfl)) (fun _ h9 => h9) rfl (zat zrX10_answer_1_ok 5 rfl) ?_
          refine lv_iload_n hx hb (zat zrX10_answer_1_ok 6 rfl) rfl (lv_at hl 1 rfl) ?_
          obtain ⟨hg175, h⟩ := gA_of h
          refine va_iald hx hb hK hP 12 10 rfl rfl hg175 (zat zrX10_answer_1_ok 7 rfl) ?_
          obtain rfl := Option.some.inj h
          obtain ⟨hP9, hD9⟩ := pd_sub ((a0, .inr (7, [.ref a3, g10, g11, .ref a4, g12, g13, g14, g15, .int o20.2.1, .int o20.2.2])) :: bX6 a3 up kp p_p (bX4 a4 un kn n_n [])) [15, 0, 1, 2, 3, 4, 5, 6, 7, 8, 9, 10, 11, 12, 13, 14] hP hD (by decide) rfl
          have hK9 := hK.sub (tys' := []) [] rfl
          rw [hQQ]
          exact W.iret (v := (n_n.2.2.2.2.1 (k1).toNatClampNeg)) hx hb hr (fun t ht hW => ⟨⟨(n_n.2.2.2.2.1 (k1).toNatClampNeg), (), rfl, rfl, by rw [ht]; exact hP9, va_K.moved hW.alike hK9, hD9⟩, hS.F ht⟩) hS.2.2 (zat zrX10_answer_1_ok 8 rfl)
        · have h := (if_pos c159).symm.trans h
          refine lv_bipush (v := (-2)) hx hb (zat zrX10_answer_1_ok 1 rfl) (by decide) ?_
          refine lv_goto (tgt := 176) hx hb (zat zrX10_answer_1_ok 2 rfl) (by decide) ?_
          obtain rfl := Option.some.inj h
          obtain ⟨hP9, hD9⟩ := pd_sub ((a0, .inr (7, [.ref a3, g10, g11, .ref a4, g12, g13, g14, g15, .int o20.2.1, .int o20.2.2])) :: bX6 a3 up kp p_p (bX4 a4 un kn n_n [])) [15, 0, 1, 2, 3, 4, 5, 6, 7, 8, 9, 10, 11, 12, 13, 14] hP hD (by decide) rfl
          have hK9 := hK.sub (tys' := []) [] rfl
          rw [hQQ]
          exact W.iret (v := (-2 : Int32)) hx hb hr (fun t ht hW => ⟨⟨(-2 : Int32), (), rfl, rfl, by rw [ht]; exact hP9, va_K.moved hW.alike hK9, hD9⟩, hS.F ht⟩) hS.2.2 (zat zrX10_answer_1_ok 8 rfl)
      have h := (if_neg c29_7).symm.trans h
      by_cases c29_8 : k2 = 8
      · have h := (if_pos c29_8).symm.trans h
        refine lv_tableIn (tgt := 177) hx hb dX10_answer_29 (by rw [c29_8] <;> decide) (by rw [c29_8] <;> decide) (by rw [c29_8] <;> rfl) (by decide) ?_
        refine lv_aload_n hx hb (zat zrX10_answer_1_ok 9 rfl) rfl (lv_at hl 0 rfl) ?_
        refine va_get (D := (dC, dI)) (ci := 7) (v := .ref a4) (C := RX10) (T := TX10) (N := 10) hx hb hts ifX10_answer_X10 hown hK hP 15 rfl rfl 3 (by decide) (hts (.fieldLink RX10 29 "HookPier" "now" "LHookPier$Now;") (List.mem_of_getElem? (i := 14) rfl)) (fun _ h9 => h9) rfl (zat zrX10_answer_1_ok 10 rfl) ?_
        refine va_get (D := (dC, dI)) (ci := 3) (v := .ref (un 0)) (C := RX4) (T := TX4) (N := 7) hx hb hts ifX10_answer_X4 hown hK hP 10 rfl rfl 3 (by decide) (hts (.fieldLink RX10 125 "HookPier$Now" "stage" "[I") (List.mem_of_getElem? (i := 15) rfl)) (fun _ h9 => h9) rfl (zat zrX10_answer_1_ok 11 rfl) ?_
        refine lv_iload_n hx hb (zat zrX10_answer_1_ok 12 rfl) rfl (lv_at hl 1 rfl) ?_
        obtain ⟨hg185, h⟩ := gA_of h
        refine va_iald hx hb hK hP 11 9 rfl rfl hg185 (zat zrX10_answer_1_ok 13 rfl) ?_
        refine lv_if_ne (tgt := 194) hx hb (zat zrX10_answer_1_ok 14 rfl) (by decide) (fun c186 => ?_) (fun c186 => ?_)
        · have h := (if_neg c186).symm.trans h
          refine lv_aload_n hx hb (zat zrX10_answer_1_ok 17 rfl) rfl (lv_at hl 0 rfl) ?_
          refine va_get (D := (dC, dI)) (ci := 7) (v := .ref a4) (C := RX10) (T := TX10) (N := 10) hx hb hts ifX10_answer_X10 hown hK hP 15 rfl rfl 3 (by decide) (hts (.fieldLink RX10 29 "HookPier" "now" "LHookPier$Now;") (List.mem_of_getElem? (i := 14) rfl)) (fun _ h9 => h9) rfl (zat zrX10_answer_1_ok 18 rfl) ?_
          refine va_get (D := (dC, dI)) (ci := 3) (v := .ref (un 2)) (C := RX4) (T := TX4) (N := 7) hx hb hts ifX10_answer_X4 hown hK hP 10 rfl rfl 5 (by decide) (hts (.fieldLink RX10 131 "HookPier$Now" "landedBy" "[I") (List.mem_of_getElem? (i := 17) rfl)) (fun _ h9 => h9) rfl (zat zrX10_answer_1_ok 19 rfl) ?_
          refine lv_iload_n hx hb (zat zrX10_answer_1_ok 20 rfl) rfl (lv_at hl 1 rfl) ?_
          obtain ⟨hg202, h⟩ := gA_of h
          refine va_iald hx hb hK hP 13 11 rfl rfl hg202 (zat zrX10_answer_1_ok 21 rfl) ?_
          obtain rfl := Option.some.inj h
          obtain ⟨hP9, hD9⟩ := pd_sub ((a0, .inr (7, [.ref a3, g10, g11, .ref a4, g12, g13, g14, g15, .int o20.2.1, .int o20.2.2])) :: bX6 a3 up kp p_p (bX4 a4 un kn n_n [])) [15, 0, 1, 2, 3, 4, 5, 6, 7, 8, 9, 10, 11, 12, 13, 14] hP hD (by decide) rfl
          have hK9 := hK.sub (tys' := []) [] rfl
          rw [hQQ]
          exact W.iret (v := (n_n.2.2.2.2.2.1 (k1).toNatClampNeg)) hx hb hr (fun t ht hW => ⟨⟨(n_n.2.2.2.2.2.1 (k1).toNatClampNeg), (), rfl, rfl, by rw [ht]; exact hP9, va_K.moved hW.alike hK9, hD9⟩, hS.F ht⟩) hS.2.2 (zat zrX10_answer_1_ok 22 rfl)
        · have h := (if_pos c186).symm.trans h
          refine lv_bipush (v := (-2)) hx hb (zat zrX10_answer_1_ok 15 rfl) (by decide) ?_
          refine lv_goto (tgt := 203) hx hb (zat zrX10_answer_1_ok 16 rfl) (by decide) ?_
          obtain rfl := Option.some.inj h
          obtain ⟨hP9, hD9⟩ := pd_sub ((a0, .inr (7, [.ref a3, g10, g11, .ref a4, g12, g13, g14, g15, .int o20.2.1, .int o20.2.2])) :: bX6 a3 up kp p_p (bX4 a4 un kn n_n [])) [15, 0, 1, 2, 3, 4, 5, 6, 7, 8, 9, 10, 11, 12, 13, 14] hP hD (by decide) rfl
          have hK9 := hK.sub (tys' := []) [] rfl
          rw [hQQ]
          exact W.iret (v := (-2 : Int32)) hx hb hr (fun t ht hW => ⟨⟨(-2 : Int32), (), rfl, rfl, by rw [ht]; exact hP9, va_K.moved hW.alike hK9, hD9⟩, hS.F ht⟩) hS.2.2 (zat zrX10_answer_1_ok 22 rfl)
      have h := (if_neg c29_8).symm.trans h
      refine lv_tableOut (tgt := 204) hx hb dX10_answer_29 (by simp only [fa_eq, ltv_0, ltv_1, ltv_2, ltv_3, ltv_4, ltv_5, ltv_6, ltv_7, ltv_8] at c29_0 c29_1 c29_2 c29_3 c29_4 c29_5 c29_6 c29_7 c29_8; omega) (by decide) ?_
      refine lv_aload_n hx hb (zat zrX10_answer_1_ok 23 rfl) rfl (lv_at hl 0 rfl) ?_
      refine va_get (D := (dC, dI)) (ci := 7) (v := .ref a4) (C := RX10) (T := TX10) (N := 10) hx hb hts ifX10_answer_X10 hown hK hP 15 rfl rfl 3 (by decide) (hts (.fieldLink RX10 29 "HookPier" "now" "LHookPier$Now;") (List.mem_of_getElem? (i := 14) rfl)) (fun _ h9 => h9) rfl (zat zrX10_answer_1_ok 24 rfl) ?_
      refine va_get (D := (dC, dI)) (ci := 3) (v := .ref (un 0)) (C := RX4) (T := TX4) (N := 7) hx hb hts ifX10_answer_X4 hown hK hP 10 rfl rfl 3 (by decide) (hts (.fieldLink RX10 125 "HookPier$Now" "stage" "[I") (List.mem_of_getElem? (i := 15) rfl)) (fun _ h9 => h9) rfl (zat zrX10_answer_1_ok 25 rfl) ?_
      refine lv_iload_n hx hb (zat zrX10_answer_1_ok 26 rfl) rfl (lv_at hl 1 rfl) ?_
      obtain ⟨hg212, h⟩ := gA_of h
      refine va_iald hx hb hK hP 11 9 rfl rfl hg212 (zat zrX10_answer_1_ok 27 rfl) ?_
      refine lv_iconst (v := 1) hx hb (zat zrX10_answer_1_ok 28 rfl) (by decide) ?_
      refine lv_icmp_ne (tgt := 239) hx hb (zat zrX10_answer_1_ok 29 rfl) (by decide) (fun c214 => ?_) (fun c214 => ?_)
      · have h := (if_neg c214).symm.trans h
        refine lv_bipush (v := (-2)) hx hb (zat zrX10_answer_1_ok 40 rfl) (by decide) ?_
        obtain rfl := Option.some.inj h
        obtain ⟨hP9, hD9⟩ := pd_sub ((a0, .inr (7, [.ref a3, g10, g11, .ref a4, g12, g13, g14, g15, .int o20.2.1, .int o20.2.2])) :: bX6 a3 up kp p_p (bX4 a4 un kn n_n [])) [15, 0, 1, 2, 3, 4, 5, 6, 7, 8, 9, 10, 11, 12, 13, 14] hP hD (by decide) rfl
        have hK9 := hK.sub (tys' := []) [] rfl
        rw [hQQ]
        exact W.iret (v := (-2 : Int32)) hx hb hr (fun t ht hW => ⟨⟨(-2 : Int32), (), rfl, rfl, by rw [ht]; exact hP9, va_K.moved hW.alike hK9, hD9⟩, hS.F ht⟩) hS.2.2 (zat zrX10_answer_1_ok 41 rfl)
      · have h := (if_pos c214).symm.trans h
        refine lv_aload_n hx hb (zat zrX10_answer_1_ok 30 rfl) rfl (lv_at hl 0 rfl) ?_
        refine va_get (D := (dC, dI)) (ci := 7) (v := .ref a3) (C := RX10) (T := TX10) (N := 10) hx hb hts ifX10_answer_X10 hown hK hP 15 rfl rfl 0 (by decide) (hts (.fieldLink RX10 10 "HookPier" "plan" "LHookPier$Plan;") (List.mem_of_getElem? (i := 7) rfl)) (fun _ h9 => h9) rfl (zat zrX10_answer_1_ok 31 rfl) ?_
        refine lv_aload_n hx hb (zat zrX10_answer_1_ok 32 rfl) rfl (lv_at hl 0 rfl) ?_
        refine va_get (D := (dC, dI)) (ci := 7) (v := .ref a4) (C := RX10) (T := TX10) (N := 10) hx hb hts ifX10_answer_X10 hown hK hP 15 rfl rfl 3 (by decide) (hts (.fieldLink RX10 29 "HookPier" "now" "LHookPier$Now;") (List.mem_of_getElem? (i := 14) rfl)) (fun _ h9 => h9) rfl (zat zrX10_answer_1_ok 33 rfl) ?_
        refine lv_iload_n hx hb (zat zrX10_answer_1_ok 34 rfl) rfl (lv_at hl 1 rfl) ?_
        refine lv_aload_n hx hb (zat zrX10_answer_1_ok 35 rfl) rfl (lv_at hl 0 rfl) ?_
        refine va_get (D := (dC, dI)) (ci := 7) (v := .ref a4) (C := RX10) (T := TX10) (N := 10) hx hb hts ifX10_answer_X10 hown hK hP 15 rfl rfl 3 (by decide) (hts (.fieldLink RX10 29 "HookPier" "now" "LHookPier$Now;") (List.mem_of_getElem? (i := 14) rfl)) (fun _ h9 => h9) rfl (zat zrX10_answer_1_ok 36 rfl) ?_
        refine va_get (D := (dC, dI)) (ci := 3) (v := .int n_n.1) (C := RX4) (T := TX4) (N := 7) hx hb hts ifX10_answer_X4 hown hK hP 10 rfl rfl 0 (by decide) (hts (.fieldLink RX10 134 "HookPier$Now" "today" "I") (List.mem_of_getElem? (i := 18) rfl)) (fun _ h9 => h9) rfl (zat zrX10_answer_1_ok 37 rfl) ?_
        obtain ⟨o233, eo233, h⟩ := bd_of h
        refine ck_i (wc := (bX6 a3 up kp p_p (bX4 a4 un kn n_n []))) (wr := ([(a0, .inr (7, [.ref a3, g10, g11, .ref a4, g12, g13, g14, g15, .int o20.2.1, .int o20.2.2]))])) hP hD hK hS hA [0, 1, 2, 3, 4, 5, 6, 7, 8, 9, 10, 11, 12, 13, 14] [15] rfl rfl (by decide) (by decide) (by decide) (fun hPc hDc => (va_runS (As := [.ref a3, .ref a4, .int k1, .int n_n.1]) (rest := []) ⟨hx, hb, hml, hown, hts⟩ (kfX3_worthOn l dC dI a3 a4 k1 n_n.1 up kp un kn p_p n_n H.size o233 eo233) (va_cwS 4 hts gfX10_answer_2 rfl rfl rfl (by decide +kernel) ⟨(Nat.le_of_ble_eq_true rfl), (Nat.le_of_ble_eq_true rfl)⟩) (PS hPc (hK.sub (tys' := (tX6 kp (tX4 kn ([])))) [0, 1, 2, 3, 4, 5, 6, 7, 8, 9, 10, 11, 12] rfl) hDc hN) rfl rfl hl.1 rfl (lv_room (Nat.le_of_ble_eq_true rfl)) (zat zrX10_answer_1_ok 38 rfl) ⟨(Nat.le_of_ble_eq_true rfl), (Nat.le_of_ble_eq_true rfl)⟩)) (fun r233 _ H locs hw hP hD _ hS => ?_)
        obtain rfl := hw.symm
        obtain ⟨hP, hD⟩ := pd_mk ((a0, .inr (7, [.ref a3, g10, g11, .ref a4, g12, g13, g14, g15, .int o20.2.1, .int o20.2.2])) :: bX6 a3 up kp p_p (bX4 a4 un kn n_n [])) hP hD
        refine lv_goto (tgt := 241) hx hb (zat zrX10_answer_1_ok 39 rfl) (by decide) ?_
        obtain rfl := Option.some.inj h
        obtain ⟨hP9, hD9⟩ := pd_sub ((a0, .inr (7, [.ref a3, g10, g11, .ref a4, g12, g13, g14, g15, .int o20.2.1, .int o20.2.2])) :: bX6 a3 up kp p_p (bX4 a4 un kn n_n [])) [0, 1, 2, 3, 4, 5, 6, 7, 8, 9, 10, 11, 12, 13, 14, 15] hP hD (by decide) rfl
        have hK9 := hK.sub (tys' := []) [] rfl
        rw [hQQ]
        exact W.iret (v := o233) hx hb hr (fun t ht hW => ⟨⟨o233, (), rfl, rfl, by rw [ht]; exact hP9, va_K.moved hW.alike hK9, hD9⟩, hS.F ht⟩) hS.2.2 (zat zrX10_answer_1_ok 41 rfl)
    · have h := (if_neg c23).symm.trans h
      refine lv_iconst (v := (-1)) hx hb (zat zrX10_answer_0_ok 13 rfl) (by decide) ?_
      obtain rfl := Option.some.inj h
      obtain ⟨hP9, hD9⟩ := pd_sub ((a0, .inr (7, [.ref a3, g10, g11, .ref a4, g12, g13, g14, g15, .int o20.2.1, .int o20.2.2])) :: bX6 a3 up kp p_p (bX4 a4 un kn n_n [])) [15, 0, 1, 2, 3, 4, 5, 6, 7, 8, 9, 10, 11, 12, 13, 14] hP hD (by decide) rfl
      have hK9 := hK.sub (tys' := []) [] rfl
      rw [hQQ]
      exact W.iret (v := (-1 : Int32)) hx hb hr (fun t ht hW => ⟨⟨(-1 : Int32), (), rfl, rfl, by rw [ht]; exact hP9, va_K.moved hW.alike hK9, hD9⟩, hS.F ht⟩) hS.2.2 (zat zrX10_answer_0_ok 14 rfl)
  refine lv_if_eq (tgt := 19) hx hb (zat zrX10_answer_0_ok 5 rfl) (by decide) (fun c8 => ?_) (fun c8 => ?_)
  · have h := (if_pos c8).symm.trans h
    refine lv_iconst (v := 1) hx hb (zat zrX10_answer_0_ok 10 rfl) (by decide) ?_
    exact J20 (1 : Int32) H _ ls h  hP hD hS (lv_sub hl [0, 1, 2] rfl)
  · have h := (if_neg c8).symm.trans h
    refine lv_aload_n hx hb (zat zrX10_answer_0_ok 6 rfl) rfl (lv_at hl 0 rfl) ?_
    refine lv_iload_n hx hb (zat zrX10_answer_0_ok 7 rfl) rfl (lv_at hl 1 rfl) ?_
    obtain ⟨o13, eo13⟩ : ∃ o, o = f_X10_answerTrouble k1 p_p := ⟨_, rfl⟩
    have h := nm_of h o13 eo13
    refine ck_i (wc := ((a0, .inr (7, [.ref a3, g10, g11, .ref a4, g12, g13, g14, g15, .int x_x.1, .int x_x.2])) :: bX6 a3 up kp p_p [])) (wr := (bX4 a4 un kn n_n [])) hP hD hK hS hA [0, 1, 2, 3, 4, 5, 6, 7, 8, 9, 10] [11, 12, 13, 14, 15] rfl rfl (by decide) (by decide) (by decide) (fun hPc hDc => (va_runV (As := [.int k1]) (rest := [.ref a0]) ⟨hx, hb, hml, hown, hts⟩ (kfX10_answerTrouble l dC dI a0 k1 a3 up kp (g10) (g11) (.ref a4) (g12) (g13) (g14) (g15) (.int x_x.1) (.int x_x.2) p_p H.size o13 eo13.symm) (cwV 1 hts gfX10_answer_3 rfl rfl rfl (by decide +kernel) ⟨(Nat.le_of_ble_eq_true rfl), (Nat.le_of_ble_eq_true rfl)⟩) (PV hPc (hK.sub (tys' := (tX6 kp ([]))) [0, 1, 2, 3, 4, 5, 6, 7, 8] rfl) hDc hN 0 rfl rfl) rfl rfl hl.1 rfl (lv_room (Nat.le_of_ble_eq_true rfl)) (zat zrX10_answer_0_ok 8 rfl) ⟨(Nat.le_of_ble_eq_true rfl), (Nat.le_of_ble_eq_true rfl)⟩)) (fun r13 _ H locs hw hP hD _ hS => ?_)
    obtain rfl := hw.symm
    obtain ⟨hP, hD⟩ := pd_mk (bX4 a4 un kn n_n ((a0, .inr (7, [.ref a3, g10, g11, .ref a4, g12, g13, g14, g15, .int x_x.1, .int x_x.2])) :: bX6 a3 up kp p_p [])) hP hD
    refine lv_goto (tgt := 20) hx hb (zat zrX10_answer_0_ok 9 rfl) (by decide) ?_
    exact J20 o13 H _ ls h  (hP.sub (ws' := ((a0, .inr (7, [.ref a3, g10, g11, .ref a4, g12, g13, g14, g15, .int x_x.1, .int x_x.2])) :: bX6 a3 up kp p_p (bX4 a4 un kn n_n []))) [5, 6, 7, 8, 9, 10, 11, 12, 13, 14, 15, 0, 1, 2, 3, 4] rfl) (hD.sub (ws' := ((a0, .inr (7, [.ref a3, g10, g11, .ref a4, g12, g13, g14, g15, .int x_x.1, .int x_x.2])) :: bX6 a3 up kp p_p (bX4 a4 un kn n_n []))) [5, 6, 7, 8, 9, 10, 11, 12, 13, 14, 15, 0, 1, 2, 3, 4] (by decide) rfl) hS (lv_sub hl [0, 1, 2] rfl)
noncomputable def zrX4_landedBits_0 : List ZR := zc 0 true (.iconst 0) 1 (zc 1 true (.istore_n 3) 1 (zc 2 true (.iconst 0) 1 (zc 3 true (.istore 4) 2 (zc 5 true (.iload 4) 2 (zc 7 true (.iload_n 1) 1 (zc 8 true (.if_icmp .ge 37) 3 (zc 11 true (.aload_n 0) 1 (zc 12 true (.getfield 21) 3 (zc 15 true (.iload 4) 2 (zc 17 true (.iaload) 1 (zc 18 true (.ifCond .eq 21) 3 (zc 21 true (.aload_n 0) 1 (zc 22 true (.getfield 28) 3 (zc 25 true (.iload 4) 2 (zc 27 true (.iaload) 1 (zc 28 true (.iload_n 2) 1 (zc 29 true (.if_icmp .ne 10) 3 (zc 32 true (.iload_n 3) 1 (zc 33 true (.iconst 1) 1 (zc 34 true (.iload 4) 2 (zc 36 true (.ishl) 1 (zc 37 true (.ior) 1 (zc 38 true (.istore_n 3) 1 (zc 39 true (.iinc 4 1) 3 (zc 42 true (.goto (-37)) 3 (zc 45 true (.iload_n 3) 1 (zc 46 true (.ireturn) 1 ([]))))))))))))))))))))))))))))
theorem zrX4_landedBits_0_ok : zck 0 ((zby cX4_landedBits).drop 0) zrX4_landedBits_0 = true := by decide +kernel
def vfX4_landedBits : List Cond := List.cons (.code yX4_landedBits cX4_landedBits 5 (some .int)) (apW [.fieldLink RX4 21 "HookPier$Now" "stage" "[I", .fieldLink RX4 28 "HookPier$Now" "landedBy" "[I"] (wsX40))
theorem ifX4_landedBits_X4 : ∀ w ∈ wsX40, w ∈ vfX4_landedBits := fun _ h => (List.mem_cons_of_mem _ (List.mem_append_right _ h))
theorem qfX4_landedBits : Good vfX4_landedBits := gd_cons (by decide +kernel) (gd_app (gd_dec (by decide +kernel) : Good [.fieldLink RX4 21 "HookPier$Now" "stage" "[I", .fieldLink RX4 28 "HookPier$Now" "landedBy" "[I"]) qsX4)
set_option maxHeartbeats 2000000 in
set_option maxRecDepth 100000 in
theorem kfX4_landedBits (l : Launch) (dC : Nat → ClassId) (dI : Nat → Nat → Nat) (a0 : Nat) (k1 : Int32) (k2 : Int32) (un : Nat → Nat) (kn : Nat → ClassId) (n_n : TX4_n) (sz : Nat) (out : Int32) (h : f_X4_landedBits k1 k2 n_n = some out) : KDi l yX4_landedBits vfX4_landedBits ({ frames := 0, cells := 0, slots := 0, locals := 0 }) (dC, dI) [.ref a0, .int k1, .int k2] sz (bX4 a0 un kn n_n []) (tX4 kn ([])) (fun (r : Int32) _ => r = out) 0 0 := by
  refine Met.ofW (cc := cX4_landedBits) (maxL := 5) (ret := (some .int)) (by decide) rfl ?_
  intro p e s m args below meth c s₁ B0 hml hv
  obtain ⟨rfl, hsz, hP, hK, hD0, hN⟩ := hv
  have hx := B0.exec
  have hb := B0.bytes
  have hr := B0.returns
  have hts := atoms_spec (ws := vfX4_landedBits) B0.pre
  have hown : s.vm.findClass RX4 = some m.cls := findClass_of_methodNamed B0.named
  have hlocks := B0.notSynchronized
  subst hsz
  have hD := hD0.self (sz := s.heap.size)
  generalize hAe : va_A (bX4 a0 un kn n_n []) s.heap.size = A at hD ⊢
  have hA : ∀ q : Nat, s.heap.size ≤ q → A q := fun q h => by rw [← hAe]; exact Or.inr h
  have hS : va_S A s.heap s.heap [] := va_S.rf
  have hP : va_P (dC, dI) vwCl (bX4 a0 un kn n_n []) s.heap := hP
  have hl := lv_entry ([.ref a0, .int k1, .int k2]) (n := 5) (Nat.le_of_ble_eq_true rfl)
  rw [lg_entry_eq]
  generalize (lg_sl ([.ref a0, .int k1, .int k2]) ++ List.replicate (5 - (lg_sl ([.ref a0, .int k1, .int k2])).length) Slot.unset).toArray = ls at hl ⊢
  have hl : lv_has ls 5 [(0, .ref a0), (1, .int k1), (2, .int k2)] := hl
  refine W_q (fun QQ hQQ => ?_)
  rw [f_X4_landedBits] at h
  refine lv_iconst (v := 0) hx hb (zat zrX4_landedBits_0_ok 0 rfl) (by decide) ?_
  refine lv_istore_n (lv' := [(3, .int 0), (0, .ref a0), (1, .int k1), (2, .int k2)]) hx hb (zat zrX4_landedBits_0_ok 1 rfl) rfl hl (by decide) rfl (fun ls hl => ?_)
  refine lv_iconst (v := 0) hx hb (zat zrX4_landedBits_0_ok 2 rfl) (by decide) ?_
  refine lv_istore (lv' := [(4, .int 0), (3, .int 0), (0, .ref a0), (1, .int k1), (2, .int k2)]) hx hb (zat zrX4_landedBits_0_ok 3 rfl) hl (by decide) rfl (fun ls hl => ?_)
  have L5 : ∀ (n5 : Nat) (v5_l4 : Int32) (v5_l3 : Int32) (H : Heap) (locs : List Loc) (ls : Array Slot), f_X4_landedBits_L5 k1 k2 n_n n5 v5_l4 v5_l3 = some out → va_P (dC, dI) vwCl (bX4 a0 un kn n_n []) H → va_D A (bX4 a0 un kn n_n []) → va_S A s.heap H locs → lv_has ls 5 [(4, .int v5_l4), (3, .int v5_l3), (0, .ref a0), (1, .int k1), (2, .int k2)] → W p l e (headSpec vfX4_landedBits { frames := 0, cells := 0, slots := 0, locals := 0 }).room s m ([.ref a0, .int k1, .int k2]).toArray below meth c H locs 0 0 QQ (F0 m 5 ls []) := by
    intro n5
    induction n5 with
    | zero =>
      intro v5_l4 v5_l3 H locs ls h  _ _ _ _
      rw [f_X4_landedBits_L5] at h
      cases h
    | succ n5 ih5 =>
      intro v5_l4 v5_l3 H locs ls h  hP hD hS hl
      rw [f_X4_landedBits_L5] at h
      refine lv_iload hx hb (zat zrX4_landedBits_0_ok 4 rfl) (lv_at hl 0 rfl) ?_
      refine lv_iload_n hx hb (zat zrX4_landedBits_0_ok 5 rfl) rfl (lv_at hl 3 rfl) ?_
      refine lv_icmp_ge (tgt := 45) hx hb (zat zrX4_landedBits_0_ok 6 rfl) (by decide) (fun c8 => ?_) (fun c8 => ?_)
      · have h := (if_pos c8).symm.trans h
        refine lv_iload_n hx hb (zat zrX4_landedBits_0_ok 26 rfl) rfl (lv_at hl 1 rfl) ?_
        obtain rfl := Option.some.inj h
        obtain ⟨hP9, hD9⟩ := pd_sub (bX4 a0 un kn n_n []) [0, 1, 2, 3, 4] hP hD (by decide) rfl
        have hK9 := hK.sub (tys' := []) [] rfl
        rw [hQQ]
        exact W.iret (v := v5_l3) hx hb hr (fun t ht hW => ⟨⟨v5_l3, (), rfl, rfl, by rw [ht]; exact hP9, va_K.moved hW.alike hK9, hD9⟩, hS.F ht⟩) hS.2.2 (zat zrX4_landedBits_0_ok 27 rfl)
      · have h := (if_neg c8).symm.trans h
        refine lv_aload_n hx hb (zat zrX4_landedBits_0_ok 7 rfl) rfl (lv_at hl 2 rfl) ?_
        refine va_get (D := (dC, dI)) (ci := 3) (v := .ref (un 0)) (C := RX4) (T := TX4) (N := 7) hx hb hts ifX4_landedBits_X4 hown hK hP 0 rfl rfl 3 (by decide) (hts (.fieldLink RX4 21 "HookPier$Now" "stage" "[I") (List.mem_of_getElem? (i := 1) rfl)) (fun _ h9 => h9) rfl (zat zrX4_landedBits_0_ok 8 rfl) ?_
        refine lv_iload hx hb (zat zrX4_landedBits_0_ok 9 rfl) (lv_at hl 0 rfl) ?_
        obtain ⟨hg17, h⟩ := gA_of h
        refine va_iald hx hb hK hP 1 0 rfl rfl hg17 (zat zrX4_landedBits_0_ok 10 rfl) ?_
        have J39 : ∀ (v39_l3 : Int32) (H : Heap) (locs : List Loc) (ls : Array Slot), f_X4_landedBits_J39 (f_X4_landedBits_L5 k1 k2 n_n n5) v5_l4 v39_l3 = some out → va_P (dC, dI) vwCl (bX4 a0 un kn n_n []) H → va_D A (bX4 a0 un kn n_n []) → va_S A s.heap H locs → lv_has ls 5 [(4, .int v5_l4), (3, .int v39_l3), (0, .ref a0), (1, .int k1), (2, .int k2)] → W p l e (headSpec vfX4_landedBits { frames := 0, cells := 0, slots := 0, locals := 0 }).room s m ([.ref a0, .int k1, .int k2]).toArray below meth c H locs 0 0 QQ (F0 m 39 ls []) := by
          intro v39_l3 H locs ls h  hP hD hS hl
          rw [f_X4_landedBits_J39] at h
          refine lv_iinc (v := (v5_l4 + (1 : Int32))) (lv' := [(4, .int (v5_l4 + (1 : Int32))), (3, .int v39_l3), (0, .ref a0), (1, .int k1), (2, .int k2)]) hx hb (zat zrX4_landedBits_0_ok 24 rfl) hl (k := 0) rfl rfl (by decide) rfl (fun ls hl => ?_)
          refine lv_goto (tgt := 5) hx hb (zat zrX4_landedBits_0_ok 25 rfl) (by decide) ?_
          exact ih5 (v5_l4 + (1 : Int32)) v39_l3 H _ ls h  hP hD hS (lv_sub hl [0, 1, 2, 3, 4] rfl)
        refine lv_if_eq (tgt := 39) hx hb (zat zrX4_landedBits_0_ok 11 rfl) (by decide) (fun c18 => ?_) (fun c18 => ?_)
        · have h := (if_pos c18).symm.trans h
          exact J39 v5_l3 H _ ls h  hP hD hS (lv_sub hl [0, 1, 2, 3, 4] rfl)
        · have h := (if_neg c18).symm.trans h
          refine lv_aload_n hx hb (zat zrX4_landedBits_0_ok 12 rfl) rfl (lv_at hl 2 rfl) ?_
          refine va_get (D := (dC, dI)) (ci := 3) (v := .ref (un 2)) (C := RX4) (T := TX4) (N := 7) hx hb hts ifX4_landedBits_X4 hown hK hP 0 rfl rfl 5 (by decide) (hts (.fieldLink RX4 28 "HookPier$Now" "landedBy" "[I") (List.mem_of_getElem? (i := 2) rfl)) (fun _ h9 => h9) rfl (zat zrX4_landedBits_0_ok 13 rfl) ?_
          refine lv_iload hx hb (zat zrX4_landedBits_0_ok 14 rfl) (lv_at hl 0 rfl) ?_
          obtain ⟨hg27, h⟩ := gA_of h
          refine va_iald hx hb hK hP 3 2 rfl rfl hg27 (zat zrX4_landedBits_0_ok 15 rfl) ?_
          refine lv_iload_n hx hb (zat zrX4_landedBits_0_ok 16 rfl) rfl (lv_at hl 4 rfl) ?_
          refine lv_icmp_ne (tgt := 39) hx hb (zat zrX4_landedBits_0_ok 17 rfl) (by decide) (fun c29 => ?_) (fun c29 => ?_)
          · have h := (if_neg c29).symm.trans h
            exact J39 v5_l3 H _ ls h  hP hD hS (lv_sub hl [0, 1, 2, 3, 4] rfl)
          · have h := (if_pos c29).symm.trans h
            refine lv_iload_n hx hb (zat zrX4_landedBits_0_ok 18 rfl) rfl (lv_at hl 1 rfl) ?_
            refine lv_iconst (v := 1) hx hb (zat zrX4_landedBits_0_ok 19 rfl) (by decide) ?_
            refine lv_iload hx hb (zat zrX4_landedBits_0_ok 20 rfl) (lv_at hl 0 rfl) ?_
            refine lv_ishl hx hb (zat zrX4_landedBits_0_ok 21 rfl) ?_
            refine lv_ior hx hb (zat zrX4_landedBits_0_ok 22 rfl) ?_
            refine lv_istore_n (lv' := [(3, .int (v5_l3 ||| ((1 : Int32) <<< (v5_l4 &&& 31)))), (4, .int v5_l4), (0, .ref a0), (1, .int k1), (2, .int k2)]) hx hb (zat zrX4_landedBits_0_ok 23 rfl) rfl hl (by decide) rfl (fun ls hl => ?_)
            exact J39 (v5_l3 ||| ((1 : Int32) <<< (v5_l4 &&& 31))) H _ ls h  hP hD hS (lv_sub hl [1, 0, 2, 3, 4] rfl)
  exact L5 FU (0 : Int32) (0 : Int32) s.heap _ ls h  hP hD hS (lv_sub hl [0, 1, 2, 3, 4] rfl)
noncomputable def zrX10_asker_0 : List ZR := zc 0 true (.aload_n 0) 1 (zc 1 true (.iload_n 2) 1 (zc 2 true (.iconst 0) 1 (zc 3 true (.iconst 5) 1 (zc 4 true (.invokestatic 75) 3 (zc 7 true (.ifCond .eq 11) 3 (zc 10 true (.aload_n 0) 1 (zc 11 true (.iload_n 1) 1 (zc 12 true (.invokevirtual 143) 3 (zc 15 true (.goto 4) 3 (zc 18 true (.iconst 1) 1 (zc 19 true (.invokevirtual 79) 3 (zc 22 true (.ifCond .eq 5) 3 (zc 25 true (.iconst (-1)) 1 (zc 26 true (.ireturn) 1 (zc 27 true (.aload_n 0) 1 (zc 28 true (.getfield 29) 3 (zc 31 true (.getfield 146) 3 (zc 34 true (.iload_n 1) 1 (zc 35 true (.iaload) 1 (zc 36 true (.istore_n 3) 1 (zc 37 true (.iload_n 2) 1 (zc 38 false (.nop) 34 (zc 72 true (.aload_n 0) 1 (zc 73 true (.getfield 10) 3 (zc 76 true (.getfield 149) 3 (zc 79 true (.iload_n 1) 1 (zc 80 true (.iaload) 1 (zc 81 true (.ireturn) 1 (zc 82 true (.iload_n 3) 1 (zc 83 true (.iconst (-1)) 1 (zc 84 true (.if_icmp .ne 8) 3 (zc 87 true (.bipush (-2)) 2 (zc 89 true (.goto 7) 3 (zc 92 true (.iload_n 3) 1 (zc 93 true (.invokestatic 152) 3 (zc 96 true (.ireturn) 1 (zc 97 true (.iload_n 3) 1 (zc 98 true (.iconst (-1)) 1 (zc 99 true (.if_icmp .ne 8) 3 (zc 102 true (.bipush (-2)) 2 (zc 104 true (.goto 7) 3 (zc 107 true (.iload_n 3) 1 (zc 108 true (.invokestatic 155) 3 (zc 111 true (.ireturn) 1 (zc 112 true (.iload_n 3) 1 (zc 113 true (.iconst (-1)) 1 (zc 114 true (.if_icmp .ne 8) 3 (zc 117 true (.bipush (-2)) 2 (zc 119 true (.goto 7) 3 (zc 122 true (.iload_n 3) 1 (zc 123 true (.invokestatic 158) 3 (zc 126 true (.ireturn) 1 (zc 127 true (.aload_n 0) 1 (zc 128 true (.getfield 29) 3 (zc 131 true (.aload_n 0) 1 (zc 132 true (.getfield 10) 3 (zc 135 true (.getfield 96) 3 (zc 138 true (.iload_n 1) 1 (zc 139 true (.invokevirtual 161) 3 (zc 142 true (.ireturn) 1 (zc 143 true (.iload_n 3) 1 (zc 144 true (.iconst (-1)) 1 (zc 145 true (.if_icmp .eq 26) 3 ([]))))))))))))))))))))))))))))))))))))))))))))))))))))))))))))))))
theorem zrX10_asker_0_ok : zck 0 ((zby cX10_asker).drop 0) zrX10_asker_0 = true := by decide +kernel
noncomputable def zrX10_asker_1 : List ZR := zc 148 true (.aload_n 0) 1 (zc 149 true (.getfield 29) 3 (zc 152 true (.aload_n 0) 1 (zc 153 true (.getfield 10) 3 (zc 156 true (.iload_n 1) 1 (zc 157 true (.iload_n 3) 1 (zc 158 true (.invokestatic 152) 3 (zc 161 true (.invokevirtual 165) 3 (zc 164 true (.ifCond .eq 7) 3 (zc 167 true (.iconst 1) 1 (zc 168 true (.goto 4) 3 (zc 171 true (.iconst 0) 1 (zc 172 true (.ireturn) 1 ([])))))))))))))
theorem zrX10_asker_1_ok : zck 148 ((zby cX10_asker).drop 148) zrX10_asker_1 = true := by decide +kernel
theorem dX10_asker_38 : decode cX10_asker 38 = .ok (.tableswitch 105 0 4 #[34, 44, 59, 74, 89], 34) := by decide +kernel
def vfX10_asker : List Cond := List.cons (.code yX10_asker cX10_asker 4 (some .int)) (apW [.methodLink RX10 75 yX10_within, .static yX10_within, .initialized RX10, .methodLink RX10 79 yX10_refused, .instanceMethod yX10_refused, .selects RX10 yX10_refused yX10_refused, .fieldLink RX10 29 "HookPier" "now" "LHookPier$Now;", .fieldLink RX10 146 "HookPier$Now" "line" "[I", .fieldLink RX10 10 "HookPier" "plan" "LHookPier$Plan;", .fieldLink RX10 149 "HookPier$Plan" "reach" "[I", .methodLink RX10 152 yX10_spotOf, .static yX10_spotOf, .methodLink RX10 155 yX10_fathomsOf, .static yX10_fathomsOf, .methodLink RX10 158 yX10_baitOf, .static yX10_baitOf, .fieldLink RX10 96 "HookPier$Plan" "answers" "I", .methodLink RX10 161 yX4_landedBits, .instanceMethod yX4_landedBits, .selects RX4 yX4_landedBits yX4_landedBits, .initialized RX4, .methodLink RX10 165 yX4_isTangled, .instanceMethod yX4_isTangled, .selects RX4 yX4_isTangled yX4_isTangled, .methodLink RX10 143 yX10_askerTrouble, .instanceMethod yX10_askerTrouble, .selects RX10 yX10_askerTrouble yX10_askerTrouble] (apW wsX100 (apW wsX40 (apW wsX60 (apW vfX10_within (apW vfX10_refused (apW vfX10_spotOf (apW vfX10_fathomsOf (apW vfX10_baitOf (apW vfX4_landedBits (apW vfX4_isTangled (vfX10_askerTrouble))))))))))))
theorem ifX10_asker_X10 : ∀ w ∈ wsX100, w ∈ vfX10_asker := fun _ h => (List.mem_cons_of_mem _ (List.mem_append_right _ (List.mem_append_left _ h)))
theorem ifX10_asker_X4 : ∀ w ∈ wsX40, w ∈ vfX10_asker := fun _ h => (List.mem_cons_of_mem _ (List.mem_append_right _ (List.mem_append_right _ (List.mem_append_left _ h))))
theorem ifX10_asker_X6 : ∀ w ∈ wsX60, w ∈ vfX10_asker := fun _ h => (List.mem_cons_of_mem _ (List.mem_append_right _ (List.mem_append_right _ (List.mem_append_right _ (List.mem_append_left _ h)))))
theorem qfX10_asker : Good vfX10_asker := gd_cons (by decide +kernel) (gd_app (gd_dec (by decide +kernel) : Good [.methodLink RX10 75 yX10_within, .static yX10_within, .initialized RX10, .methodLink RX10 79 yX10_refused, .instanceMethod yX10_refused, .selects RX10 yX10_refused yX10_refused, .fieldLink RX10 29 "HookPier" "now" "LHookPier$Now;", .fieldLink RX10 146 "HookPier$Now" "line" "[I", .fieldLink RX10 10 "HookPier" "plan" "LHookPier$Plan;", .fieldLink RX10 149 "HookPier$Plan" "reach" "[I", .methodLink RX10 152 yX10_spotOf, .static yX10_spotOf, .methodLink RX10 155 yX10_fathomsOf, .static yX10_fathomsOf, .methodLink RX10 158 yX10_baitOf, .static yX10_baitOf, .fieldLink RX10 96 "HookPier$Plan" "answers" "I", .methodLink RX10 161 yX4_landedBits, .instanceMethod yX4_landedBits, .selects RX4 yX4_landedBits yX4_landedBits, .initialized RX4, .methodLink RX10 165 yX4_isTangled, .instanceMethod yX4_isTangled, .selects RX4 yX4_isTangled yX4_isTangled, .methodLink RX10 143 yX10_askerTrouble, .instanceMethod yX10_askerTrouble, .selects RX10 yX10_askerTrouble yX10_askerTrouble]) (gd_app qsX10 (gd_app qsX4 (gd_app qsX6 (gd_app qfX10_within (gd_app qfX10_refused (gd_app qfX10_spotOf (gd_app qfX10_fathomsOf (gd_app qfX10_baitOf (gd_app qfX4_landedBits (gd_app qfX4_isTangled qfX10_askerTrouble)))))))))))
theorem gfX10_asker_0 : GoodIn vfX10_asker (va_wsS RX10 75 yX10_within vfX10_within) := goodIn_app (goodIn_r [.methodLink RX10 75 yX10_within, .static yX10_within, .initialized RX10] [1, 2, 3] rfl (by decide +kernel)) (goodIn_m (fun _ h => (List.mem_cons_of_mem _ (List.mem_append_right _ (List.mem_append_right _ (List.mem_append_right _ (List.mem_append_right _ (List.mem_append_left _ h))))))) qfX10_within)
theorem gfX10_asker_1 : GoodIn vfX10_asker (wsV RX10 79 RX10 yX10_refused vfX10_refused) := goodIn_app (goodIn_r [.methodLink RX10 79 yX10_refused, .instanceMethod yX10_refused, .selects RX10 yX10_refused yX10_refused, .initialized RX10] [4, 5, 6, 3] rfl (by decide +kernel)) (goodIn_m (fun _ h => (List.mem_cons_of_mem _ (List.mem_append_right _ (List.mem_append_right _ (List.mem_append_right _ (List.mem_append_right _ (List.mem_append_right _ (List.mem_append_left _ h)))))))) qfX10_refused)
theorem gfX10_asker_2 : GoodIn vfX10_asker (va_wsS RX10 152 yX10_spotOf vfX10_spotOf) := goodIn_app (goodIn_r [.methodLink RX10 152 yX10_spotOf, .static yX10_spotOf, .initialized RX10] [11, 12, 3] rfl (by decide +kernel)) (goodIn_m (fun _ h => (List.mem_cons_of_mem _ (List.mem_append_right _ (List.mem_append_right _ (List.mem_append_right _ (List.mem_append_right _ (List.mem_append_right _ (List.mem_append_right _ (List.mem_append_left _ h))))))))) qfX10_spotOf)
theorem gfX10_asker_3 : GoodIn vfX10_asker (va_wsS RX10 155 yX10_fathomsOf vfX10_fathomsOf) := goodIn_app (goodIn_r [.methodLink RX10 155 yX10_fathomsOf, .static yX10_fathomsOf, .initialized RX10] [13, 14, 3] rfl (by decide +kernel)) (goodIn_m (fun _ h => (List.mem_cons_of_mem _ (List.mem_append_right _ (List.mem_append_right _ (List.mem_append_right _ (List.mem_append_right _ (List.mem_append_right _ (List.mem_append_right _ (List.mem_append_right _ (List.mem_append_left _ h)))))))))) qfX10_fathomsOf)
theorem gfX10_asker_4 : GoodIn vfX10_asker (va_wsS RX10 158 yX10_baitOf vfX10_baitOf) := goodIn_app (goodIn_r [.methodLink RX10 158 yX10_baitOf, .static yX10_baitOf, .initialized RX10] [15, 16, 3] rfl (by decide +kernel)) (goodIn_m (fun _ h => (List.mem_cons_of_mem _ (List.mem_append_right _ (List.mem_append_right _ (List.mem_append_right _ (List.mem_append_right _ (List.mem_append_right _ (List.mem_append_right _ (List.mem_append_right _ (List.mem_append_right _ (List.mem_append_left _ h))))))))))) qfX10_baitOf)
theorem gfX10_asker_5 : GoodIn vfX10_asker (wsV RX10 161 RX4 yX4_landedBits vfX4_landedBits) := goodIn_app (goodIn_r [.methodLink RX10 161 yX4_landedBits, .instanceMethod yX4_landedBits, .selects RX4 yX4_landedBits yX4_landedBits, .initialized RX4] [18, 19, 20, 21] rfl (by decide +kernel)) (goodIn_m (fun _ h => (List.mem_cons_of_mem _ (List.mem_append_right _ (List.mem_append_right _ (List.mem_append_right _ (List.mem_append_right _ (List.mem_append_right _ (List.mem_append_right _ (List.mem_append_right _ (List.mem_append_right _ (List.mem_append_right _ (List.mem_append_left _ h)))))))))))) qfX4_landedBits)
theorem gfX10_asker_6 : GoodIn vfX10_asker (wsV RX10 165 RX4 yX4_isTangled vfX4_isTangled) := goodIn_app (goodIn_r [.methodLink RX10 165 yX4_isTangled, .instanceMethod yX4_isTangled, .selects RX4 yX4_isTangled yX4_isTangled, .initialized RX4] [22, 23, 24, 21] rfl (by decide +kernel)) (goodIn_m (fun _ h => (List.mem_cons_of_mem _ (List.mem_append_right _ (List.mem_append_right _ (List.mem_append_right _ (List.mem_append_right _ (List.mem_append_right _ (List.mem_append_right _ (List.mem_append_right _ (List.mem_append_right _ (List.mem_append_right _ (List.mem_append_right _ (List.mem_append_left _ h))))))))))))) qfX4_isTangled)
theorem gfX10_asker_7 : GoodIn vfX10_asker (wsV RX10 143 RX10 yX10_askerTrouble vfX10_askerTrouble) := goodIn_app (goodIn_r [.methodLink RX10 143 yX10_askerTrouble, .instanceMethod yX10_askerTrouble, .selects RX10 yX10_askerTrouble yX10_askerTrouble, .initialized RX10] [25, 26, 27, 3] rfl (by decide +kernel)) (goodIn_m (fun _ h => (List.mem_cons_of_mem _ (List.mem_append_right _ (List.mem_append_right _ (List.mem_append_right _ (List.mem_append_right _ (List.mem_append_right _ (List.mem_append_right _ (List.mem_append_right _ (List.mem_append_right _ (List.mem_append_right _ (List.mem_append_right _ (List.mem_append_right _ h))))))))))))) qfX10_askerTrouble)
set_option maxHeartbeats 2000000 in
set_option maxRecDepth 100000 in
theorem kfX10_asker (l : Launch) (dC : Nat → ClassId) (dI : Nat → Nat → Nat) (a0 : Nat) (k1 : Int32) (k2 : Int32) (a3 : Nat) (a4 : Nat) (up : Nat → Nat) (kp : Nat → ClassId) (un : Nat → Nat) (kn : Nat → ClassId) (x_x : TX10_x) (g10 : Value) (g11 : Value) (g12 : Value) (g13 : Value) (g14 : Value) (g15 : Value) (p_p : TX6_p) (n_n : TX4_n) (sz : Nat) (out : (Int32 × TX10_x)) (h : f_X10_asker k1 k2 x_x p_p n_n = some out) : KCi l yX10_asker vfX10_asker ({ frames := 3, cells := 0, slots := 0, locals := 69 }) (dC, dI) [.ref a0, .int k1, .int k2] sz ((a0, .inr (7, [.ref a3, g10, g11, .ref a4, g12, g13, g14, g15, .int x_x.1, .int x_x.2])) :: bX6 a3 up kp p_p (bX4 a4 un kn n_n [])) (tX6 kp (tX4 kn ([]))) (fun (r : Int32) _ => r = out.1) ((a0, .inr (7, [.ref a3, g10, g11, .ref a4, g12, g13, g14, g15, .int out.2.1, .int out.2.2])) :: bX6 a3 up kp p_p (bX4 a4 un kn n_n [])) 0 0 := by
  refine Met.ofW (cc := cX10_asker) (maxL := 4) (ret := (some .int)) (by decide) rfl ?_
  intro p e s m args below meth c s₁ B0 hml hv
  obtain ⟨rfl, hsz, hP, hK, hD0, hN⟩ := hv
  have hx := B0.exec
  have hb := B0.bytes
  have hr := B0.returns
  have hts := atoms_spec (ws := vfX10_asker) B0.pre
  have hown : s.vm.findClass RX10 = some m.cls := findClass_of_methodNamed B0.named
  have hlocks := B0.notSynchronized
  subst hsz
  have hD := hD0.self (sz := s.heap.size)
  generalize hAe : va_A ((a0, .inr (7, [.ref a3, g10, g11, .ref a4, g12, g13, g14, g15, .int x_x.1, .int x_x.2])) :: bX6 a3 up kp p_p (bX4 a4 un kn n_n [])) s.heap.size = A at hD ⊢
  have hA : ∀ q : Nat, s.heap.size ≤ q → A q := fun q h => by rw [← hAe]; exact Or.inr h
  have hS : va_S A s.heap s.heap [] := va_S.rf
  have hP : va_P (dC, dI) vwCl ((a0, .inr (7, [.ref a3, g10, g11, .ref a4, g12, g13, g14, g15, .int x_x.1, .int x_x.2])) :: bX6 a3 up kp p_p (bX4 a4 un kn n_n [])) s.heap := hP
  have hl := lv_entry ([.ref a0, .int k1, .int k2]) (n := 4) (Nat.le_of_ble_eq_true rfl)
  rw [lg_entry_eq]
  generalize (lg_sl ([.ref a0, .int k1, .int k2]) ++ List.replicate (4 - (lg_sl ([.ref a0, .int k1, .int k2])).length) Slot.unset).toArray = ls at hl ⊢
  have hl : lv_has ls 4 [(0, .ref a0), (1, .int k1), (2, .int k2)] := hl
  refine W_q (fun QQ hQQ => ?_)
  rw [f_X10_asker] at h
  refine lv_aload_n hx hb (zat zrX10_asker_0_ok 0 rfl) rfl (lv_at hl 0 rfl) ?_
  refine lv_iload_n hx hb (zat zrX10_asker_0_ok 1 rfl) rfl (lv_at hl 2 rfl) ?_
  refine lv_iconst (v := 0) hx hb (zat zrX10_asker_0_ok 2 rfl) (by decide) ?_
  refine lv_iconst (v := 5) hx hb (zat zrX10_asker_0_ok 3 rfl) (by decide) ?_
  obtain ⟨o4, eo4⟩ : ∃ o, o = f_X10_within k2 (0 : Int32) (5 : Int32) := ⟨_, rfl⟩
  have h := nm_of h o4 eo4
  refine ck_i (wc := []) (wr := ((a0, .inr (7, [.ref a3, g10, g11, .ref a4, g12, g13, g14, g15, .int x_x.1, .int x_x.2])) :: bX6 a3 up kp p_p (bX4 a4 un kn n_n []))) hP hD hK hS hA [] [0, 1, 2, 3, 4, 5, 6, 7, 8, 9, 10, 11, 12, 13, 14, 15] rfl rfl (by decide) (by decide) (by decide) (fun hPc hDc => (va_runS (As := [.int k2, .int 0, .int 5]) (rest := [.ref a0]) ⟨hx, hb, hml, hown, hts⟩ (kfX10_within l dC dI k2 (0 : Int32) (5 : Int32) s.heap.size o4 eo4.symm) (va_cwS 3 hts gfX10_asker_0 rfl rfl rfl (by decide +kernel) ⟨(Nat.le_of_ble_eq_true rfl), (Nat.le_of_ble_eq_true rfl)⟩) (PS hPc (hK.sub (tys' := ([])) [] rfl) hDc hN) rfl rfl hl.1 rfl (lv_room (Nat.le_of_ble_eq_true rfl)) (zat zrX10_asker_0_ok 4 rfl) ⟨(Nat.le_of_ble_eq_true rfl), (Nat.le_of_ble_eq_true rfl)⟩)) (fun r4 _ H locs hw hP hD _ hS => ?_)
  obtain ⟨hw, br4⟩ := hw
  obtain rfl := hw.symm
  obtain ⟨hP, hD⟩ := pd_mk ((a0, .inr (7, [.ref a3, g10, g11, .ref a4, g12, g13, g14, g15, .int x_x.1, .int x_x.2])) :: bX6 a3 up kp p_p (bX4 a4 un kn n_n [])) hP hD
  have J19 : ∀ (v19_t1 : Int32) (H : Heap) (locs : List Loc) (ls : Array Slot), f_X10_asker_J19 k1 k2 x_x p_p n_n v19_t1 = some out → va_P (dC, dI) vwCl ((a0, .inr (7, [.ref a3, g10, g11, .ref a4, g12, g13, g14, g15, .int x_x.1, .int x_x.2])) :: bX6 a3 up kp p_p (bX4 a4 un kn n_n [])) H → va_D A ((a0, .inr (7, [.ref a3, g10, g11, .ref a4, g12, g13, g14, g15, .int x_x.1, .int x_x.2])) :: bX6 a3 up kp p_p (bX4 a4 un kn n_n [])) → va_S A s.heap H locs → lv_has ls 4 [(0, .ref a0), (1, .int k1), (2, .int k2)] → W p l e (headSpec vfX10_asker { frames := 3, cells := 0, slots := 0, locals := 69 }).room s m ([.ref a0, .int k1, .int k2]).toArray below meth c H locs 0 0 QQ (F0 m 19 ls [.int v19_t1, .ref a0]) := by
    intro v19_t1 H locs ls h  hP hD hS hl
    rw [f_X10_asker_J19] at h
    obtain ⟨o19, eo19⟩ : ∃ o, o = f_X10_refused v19_t1 x_x := ⟨_, rfl⟩
    have h := nm_of h o19 eo19
    refine ck_i (wc := ([(a0, .inr (7, [.ref a3, g10, g11, .ref a4, g12, g13, g14, g15, .int x_x.1, .int x_x.2]))])) (wr := (bX6 a3 up kp p_p (bX4 a4 un kn n_n []))) hP hD hK hS hA [0] [1, 2, 3, 4, 5, 6, 7, 8, 9, 10, 11, 12, 13, 14, 15] rfl rfl (by decide) (by decide) (by decide) (fun hPc hDc => (va_runV (As := [.int v19_t1]) (rest := []) ⟨hx, hb, hml, hown, hts⟩ (kfX10_refused l dC dI a0 v19_t1 x_x (.ref a3) (g10) (g11) (.ref a4) (g12) (g13) (g14) (g15) H.size o19 eo19.symm) (cwV 1 hts gfX10_asker_1 rfl rfl rfl (by decide +kernel) ⟨(Nat.le_of_ble_eq_true rfl), (Nat.le_of_ble_eq_true rfl)⟩) (PV hPc (hK.sub (tys' := ([])) [] rfl) hDc hN 0 rfl rfl) rfl rfl hl.1 rfl (lv_room (Nat.le_of_ble_eq_true rfl)) (zat zrX10_asker_0_ok 11 rfl) ⟨(Nat.le_of_ble_eq_true rfl), (Nat.le_of_ble_eq_true rfl)⟩)) (fun r19 _ H locs hw hP hD _ hS => ?_)
    obtain ⟨hw, br19⟩ := hw
    obtain rfl := hw
    obtain ⟨hP, hD⟩ := pd_mk (bX6 a3 up kp p_p (bX4 a4 un kn n_n ([(a0, .inr (7, [.ref a3, g10, g11, .ref a4, g12, g13, g14, g15, .int o19.2.1, .int o19.2.2]))]))) hP hD
    refine lv_if_eq (tgt := 27) hx hb (zat zrX10_asker_0_ok 12 rfl) (by decide) (fun c22 => ?_) (fun c22 => ?_)
    · have h := (if_pos c22).symm.trans h
      refine lv_aload_n hx hb (zat zrX10_asker_0_ok 15 rfl) rfl (lv_at hl 0 rfl) ?_
      refine va_get (D := (dC, dI)) (ci := 7) (v := .ref a4) (C := RX10) (T := TX10) (N := 10) hx hb hts ifX10_asker_X10 hown hK hP 15 rfl rfl 3 (by decide) (hts (.fieldLink RX10 29 "HookPier" "now" "LHookPier$Now;") (List.mem_of_getElem? (i := 7) rfl)) (fun _ h9 => h9) rfl (zat zrX10_asker_0_ok 16 rfl) ?_
      refine va_get (D := (dC, dI)) (ci := 3) (v := .ref (un 3)) (C := RX4) (T := TX4) (N := 7) hx hb hts ifX10_asker_X4 hown hK hP 10 rfl rfl 6 (by decide) (hts (.fieldLink RX10 146 "HookPier$Now" "line" "[I") (List.mem_of_getElem? (i := 8) rfl)) (fun _ h9 => h9) rfl (zat zrX10_asker_0_ok 17 rfl) ?_
      refine lv_iload_n hx hb (zat zrX10_asker_0_ok 18 rfl) rfl (lv_at hl 1 rfl) ?_
      obtain ⟨hg35, h⟩ := gA_of h
      refine va_iald hx hb hK hP 14 12 rfl rfl hg35 (zat zrX10_asker_0_ok 19 rfl) ?_
      refine lv_istore_n (lv' := [(3, .int (n_n.2.2.2.2.2.2 (k1).toNatClampNeg)), (0, .ref a0), (1, .int k1), (2, .int k2)]) hx hb (zat zrX10_asker_0_ok 20 rfl) rfl hl (by decide) rfl (fun ls hl => ?_)
      refine lv_iload_n hx hb (zat zrX10_asker_0_ok 21 rfl) rfl (lv_at hl 3 rfl) ?_
      by_cases c38_0 : k2 = 0
      · have h := (if_pos c38_0).symm.trans h
        refine lv_tableIn (tgt := 72) hx hb dX10_asker_38 (by rw [c38_0] <;> decide) (by rw [c38_0] <;> decide) (by rw [c38_0] <;> rfl) (by decide) ?_
        refine lv_aload_n hx hb (zat zrX10_asker_0_ok 23 rfl) rfl (lv_at hl 1 rfl) ?_
        refine va_get (D := (dC, dI)) (ci := 7) (v := .ref a3) (C := RX10) (T := TX10) (N := 10) hx hb hts ifX10_asker_X10 hown hK hP 15 rfl rfl 0 (by decide) (hts (.fieldLink RX10 10 "HookPier" "plan" "LHookPier$Plan;") (List.mem_of_getElem? (i := 9) rfl)) (fun _ h9 => h9) rfl (zat zrX10_asker_0_ok 24 rfl) ?_
        refine va_get (D := (dC, dI)) (ci := 4) (v := .ref (up 0)) (C := RX6) (T := TX6) (N := 18) hx hb hts ifX10_asker_X6 hown hK hP 0 rfl rfl 9 (by decide) (hts (.fieldLink RX10 149 "HookPier$Plan" "reach" "[I") (List.mem_of_getElem? (i := 10) rfl)) (fun _ h9 => h9) rfl (zat zrX10_asker_0_ok 25 rfl) ?_
        refine lv_iload_n hx hb (zat zrX10_asker_0_ok 26 rfl) rfl (lv_at hl 2 rfl) ?_
        obtain ⟨hg80, h⟩ := gA_of h
        refine va_iald hx hb hK hP 1 0 rfl rfl hg80 (zat zrX10_asker_0_ok 27 rfl) ?_
        obtain rfl := Option.some.inj h
        obtain ⟨hP9, hD9⟩ := pd_sub ((a0, .inr (7, [.ref a3, g10, g11, .ref a4, g12, g13, g14, g15, .int o19.2.1, .int o19.2.2])) :: bX6 a3 up kp p_p (bX4 a4 un kn n_n [])) [15, 0, 1, 2, 3, 4, 5, 6, 7, 8, 9, 10, 11, 12, 13, 14] hP hD (by decide) rfl
        have hK9 := hK.sub (tys' := []) [] rfl
        rw [hQQ]
        exact W.iret (v := (p_p.2.2.2.2.2.2.2.2.2.1 (k1).toNatClampNeg)) hx hb hr (fun t ht hW => ⟨⟨(p_p.2.2.2.2.2.2.2.2.2.1 (k1).toNatClampNeg), (), rfl, rfl, by rw [ht]; exact hP9, va_K.moved hW.alike hK9, hD9⟩, hS.F ht⟩) hS.2.2 (zat zrX10_asker_0_ok 28 rfl)
      have h := (if_neg c38_0).symm.trans h
      by_cases c38_1 : k2 = 1
      · have h := (if_pos c38_1).symm.trans h
        refine lv_tableIn (tgt := 82) hx hb dX10_asker_38 (by rw [c38_1] <;> decide) (by rw [c38_1] <;> decide) (by rw [c38_1] <;> rfl) (by decide) ?_
        refine lv_iload_n hx hb (zat zrX10_asker_0_ok 29 rfl) rfl (lv_at hl 0 rfl) ?_
        refine lv_iconst (v := (-1)) hx hb (zat zrX10_asker_0_ok 30 rfl) (by decide) ?_
        refine lv_icmp_ne (tgt := 92) hx hb (zat zrX10_asker_0_ok 31 rfl) (by decide) (fun c84 => ?_) (fun c84 => ?_)
        · have h := (if_neg c84).symm.trans h
          refine lv_iload_n hx hb (zat zrX10_asker_0_ok 34 rfl) rfl (lv_at hl 0 rfl) ?_
          obtain ⟨o93, eo93⟩ : ∃ o, o = f_X10_spotOf (n_n.2.2.2.2.2.2 (k1).toNatClampNeg) := ⟨_, rfl⟩
          have h := nm_of h o93 eo93
          refine ck_i (wc := []) (wr := (bX6 a3 up kp p_p (bX4 a4 un kn n_n ([(a0, .inr (7, [.ref a3, g10, g11, .ref a4, g12, g13, g14, g15, .int o19.2.1, .int o19.2.2]))])))) hP hD hK hS hA [] [0, 1, 2, 3, 4, 5, 6, 7, 8, 9, 10, 11, 12, 13, 14, 15] rfl rfl (by decide) (by decide) (by decide) (fun hPc hDc => (va_runS (As := [.int (n_n.2.2.2.2.2.2 (k1).toNatClampNeg)]) (rest := []) ⟨hx, hb, hml, hown, hts⟩ (kfX10_spotOf l dC dI (n_n.2.2.2.2.2.2 (k1).toNatClampNeg) H.size o93 eo93.symm) (va_cwS 1 hts gfX10_asker_2 rfl rfl rfl (by decide +kernel) ⟨(Nat.le_of_ble_eq_true rfl), (Nat.le_of_ble_eq_true rfl)⟩) (PS hPc (hK.sub (tys' := ([])) [] rfl) hDc hN) rfl rfl hl.1 rfl (lv_room (Nat.le_of_ble_eq_true rfl)) (zat zrX10_asker_0_ok 35 rfl) ⟨(Nat.le_of_ble_eq_true rfl), (Nat.le_of_ble_eq_true rfl)⟩)) (fun r93 _ H locs hw hP hD _ hS => ?_)
          obtain rfl := hw.symm
          obtain ⟨hP, hD⟩ := pd_mk (bX6 a3 up kp p_p (bX4 a4 un kn n_n ([(a0, .inr (7, [.ref a3, g10, g11, .ref a4, g12, g13, g14, g15, .int o19.2.1, .int o19.2.2]))]))) hP hD
          obtain rfl := Option.some.inj h
          obtain ⟨hP9, hD9⟩ := pd_sub ((a0, .inr (7, [.ref a3, g10, g11, .ref a4, g12, g13, g14, g15, .int o19.2.1, .int o19.2.2])) :: bX6 a3 up kp p_p (bX4 a4 un kn n_n [])) [15, 0, 1, 2, 3, 4, 5, 6, 7, 8, 9, 10, 11, 12, 13, 14] hP hD (by decide) rfl
          have hK9 := hK.sub (tys' := []) [] rfl
          rw [hQQ]
          exact W.iret (v := o93) hx hb hr (fun t ht hW => ⟨⟨o93, (), rfl, rfl, by rw [ht]; exact hP9, va_K.moved hW.alike hK9, hD9⟩, hS.F ht⟩) hS.2.2 (zat zrX10_asker_0_ok 36 rfl)
        · have h := (if_pos c84).symm.trans h
          refine lv_bipush (v := (-2)) hx hb (zat zrX10_asker_0_ok 32 rfl) (by decide) ?_
          refine lv_goto (tgt := 96) hx hb (zat zrX10_asker_0_ok 33 rfl) (by decide) ?_
          obtain rfl := Option.some.inj h
          obtain ⟨hP9, hD9⟩ := pd_sub ((a0, .inr (7, [.ref a3, g10, g11, .ref a4, g12, g13, g14, g15, .int o19.2.1, .int o19.2.2])) :: bX6 a3 up kp p_p (bX4 a4 un kn n_n [])) [15, 0, 1, 2, 3, 4, 5, 6, 7, 8, 9, 10, 11, 12, 13, 14] hP hD (by decide) rfl
          have hK9 := hK.sub (tys' := []) [] rfl
          rw [hQQ]
          exact W.iret (v := (-2 : Int32)) hx hb hr (fun t ht hW => ⟨⟨(-2 : Int32), (), rfl, rfl, by rw [ht]; exact hP9, va_K.moved hW.alike hK9, hD9⟩, hS.F ht⟩) hS.2.2 (zat zrX10_asker_0_ok 36 rfl)
      have h := (if_neg c38_1).symm.trans h
      by_cases c38_2 : k2 = 2
      · have h := (if_pos c38_2).symm.trans h
        refine lv_tableIn (tgt := 97) hx hb dX10_asker_38 (by rw [c38_2] <;> decide) (by rw [c38_2] <;> decide) (by rw [c38_2] <;> rfl) (by decide) ?_
        refine lv_iload_n hx hb (zat zrX10_asker_0_ok 37 rfl) rfl (lv_at hl 0 rfl) ?_
        refine lv_iconst (v := (-1)) hx hb (zat zrX10_asker_0_ok 38 rfl) (by decide) ?_
        refine lv_icmp_ne (tgt := 107) hx hb (zat zrX10_asker_0_ok 39 rfl) (by decide) (fun c99 => ?_) (fun c99 => ?_)
        · have h := (if_neg c99).symm.trans h
          refine lv_iload_n hx hb (zat zrX10_asker_0_ok 42 rfl) rfl (lv_at hl 0 rfl) ?_
          obtain ⟨o108, eo108⟩ : ∃ o, o = f_X10_fathomsOf (n_n.2.2.2.2.2.2 (k1).toNatClampNeg) := ⟨_, rfl⟩
          have h := nm_of h o108 eo108
          refine ck_i (wc := []) (wr := (bX6 a3 up kp p_p (bX4 a4 un kn n_n ([(a0, .inr (7, [.ref a3, g10, g11, .ref a4, g12, g13, g14, g15, .int o19.2.1, .int o19.2.2]))])))) hP hD hK hS hA [] [0, 1, 2, 3, 4, 5, 6, 7, 8, 9, 10, 11, 12, 13, 14, 15] rfl rfl (by decide) (by decide) (by decide) (fun hPc hDc => (va_runS (As := [.int (n_n.2.2.2.2.2.2 (k1).toNatClampNeg)]) (rest := []) ⟨hx, hb, hml, hown, hts⟩ (kfX10_fathomsOf l dC dI (n_n.2.2.2.2.2.2 (k1).toNatClampNeg) H.size o108 eo108.symm) (va_cwS 1 hts gfX10_asker_3 rfl rfl rfl (by decide +kernel) ⟨(Nat.le_of_ble_eq_true rfl), (Nat.le_of_ble_eq_true rfl)⟩) (PS hPc (hK.sub (tys' := ([])) [] rfl) hDc hN) rfl rfl hl.1 rfl (lv_room (Nat.le_of_ble_eq_true rfl)) (zat zrX10_asker_0_ok 43 rfl) ⟨(Nat.le_of_ble_eq_true rfl), (Nat.le_of_ble_eq_true rfl)⟩)) (fun r108 _ H locs hw hP hD _ hS => ?_)
          obtain rfl := hw.symm
          obtain ⟨hP, hD⟩ := pd_mk (bX6 a3 up kp p_p (bX4 a4 un kn n_n ([(a0, .inr (7, [.ref a3, g10, g11, .ref a4, g12, g13, g14, g15, .int o19.2.1, .int o19.2.2]))]))) hP hD
          obtain rfl := Option.some.inj h
          obtain ⟨hP9, hD9⟩ := pd_sub ((a0, .inr (7, [.ref a3, g10, g11, .ref a4, g12, g13, g14, g15, .int o19.2.1, .int o19.2.2])) :: bX6 a3 up kp p_p (bX4 a4 un kn n_n [])) [15, 0, 1, 2, 3, 4, 5, 6, 7, 8, 9, 10, 11, 12, 13, 14] hP hD (by decide) rfl
          have hK9 := hK.sub (tys' := []) [] rfl
          rw [hQQ]
          exact W.iret (v := o108) hx hb hr (fun t ht hW => ⟨⟨o108, (), rfl, rfl, by rw [ht]; exact hP9, va_K.moved hW.alike hK9, hD9⟩, hS.F ht⟩) hS.2.2 (zat zrX10_asker_0_ok 44 rfl)
        · have h := (if_pos c99).symm.trans h
          refine lv_bipush (v := (-2)) hx hb (zat zrX10_asker_0_ok 40 rfl) (by decide) ?_
          refine lv_goto (tgt := 111) hx hb (zat zrX10_asker_0_ok 41 rfl) (by decide) ?_
          obtain rfl := Option.some.inj h
          obtain ⟨hP9, hD9⟩ := pd_sub ((a0, .inr (7, [.ref a3, g10, g11, .ref a4, g12, g13, g14, g15, .int o19.2.1, .int o19.2.2])) :: bX6 a3 up kp p_p (bX4 a4 un kn n_n [])) [15, 0, 1, 2, 3, 4, 5, 6, 7, 8, 9, 10, 11, 12, 13, 14] hP hD (by decide) rfl
          have hK9 := hK.sub (tys' := []) [] rfl
          rw [hQQ]
          exact W.iret (v := (-2 : Int32)) hx hb hr (fun t ht hW => ⟨⟨(-2 : Int32), (), rfl, rfl, by rw [ht]; exact hP9, va_K.moved hW.alike hK9, hD9⟩, hS.F ht⟩) hS.2.2 (zat zrX10_asker_0_ok 44 rfl)
      have h := (if_neg c38_2).symm.trans h
      by_cases c38_3 : k2 = 3
      · have h := (if_pos c38_3).symm.trans h
        refine lv_tableIn (tgt := 112) hx hb dX10_asker_38 (by rw [c38_3] <;> decide) (by rw [c38_3] <;> decide) (by rw [c38_3] <;> rfl) (by decide) ?_
        refine lv_iload_n hx hb (zat zrX10_asker_0_ok 45 rfl) rfl (lv_at hl 0 rfl) ?_
        refine lv_iconst (v := (-1)) hx hb (zat zrX10_asker_0_ok 46 rfl) (by decide) ?_
        refine lv_icmp_ne (tgt := 122) hx hb (zat zrX10_asker_0_ok 47 rfl) (by decide) (fun c114 => ?_) (fun c114 => ?_)
        · have h := (if_neg c114).symm.trans h
          refine lv_iload_n hx hb (zat zrX10_asker_0_ok 50 rfl) rfl (lv_at hl 0 rfl) ?_
          obtain ⟨o123, eo123⟩ : ∃ o, o = f_X10_baitOf (n_n.2.2.2.2.2.2 (k1).toNatClampNeg) := ⟨_, rfl⟩
          have h := nm_of h o123 eo123
          refine ck_i (wc := []) (wr := (bX6 a3 up kp p_p (bX4 a4 un kn n_n ([(a0, .inr (7, [.ref a3, g10, g11, .ref a4, g12, g13, g14, g15, .int o19.2.1, .int o19.2.2]))])))) hP hD hK hS hA [] [0, 1, 2, 3, 4, 5, 6, 7, 8, 9, 10, 11, 12, 13, 14, 15] rfl rfl (by decide) (by decide) (by decide) (fun hPc hDc => (va_runS (As := [.int (n_n.2.2.2.2.2.2 (k1).toNatClampNeg)]) (rest := []) ⟨hx, hb, hml, hown, hts⟩ (kfX10_baitOf l dC dI (n_n.2.2.2.2.2.2 (k1).toNatClampNeg) H.size o123 eo123.symm) (va_cwS 1 hts gfX10_asker_4 rfl rfl rfl (by decide +kernel) ⟨(Nat.le_of_ble_eq_true rfl), (Nat.le_of_ble_eq_true rfl)⟩) (PS hPc (hK.sub (tys' := ([])) [] rfl) hDc hN) rfl rfl hl.1 rfl (lv_room (Nat.le_of_ble_eq_true rfl)) (zat zrX10_asker_0_ok 51 rfl) ⟨(Nat.le_of_ble_eq_true rfl), (Nat.le_of_ble_eq_true rfl)⟩)) (fun r123 _ H locs hw hP hD _ hS => ?_)
          obtain rfl := hw.symm
          obtain ⟨hP, hD⟩ := pd_mk (bX6 a3 up kp p_p (bX4 a4 un kn n_n ([(a0, .inr (7, [.ref a3, g10, g11, .ref a4, g12, g13, g14, g15, .int o19.2.1, .int o19.2.2]))]))) hP hD
          obtain rfl := Option.some.inj h
          obtain ⟨hP9, hD9⟩ := pd_sub ((a0, .inr (7, [.ref a3, g10, g11, .ref a4, g12, g13, g14, g15, .int o19.2.1, .int o19.2.2])) :: bX6 a3 up kp p_p (bX4 a4 un kn n_n [])) [15, 0, 1, 2, 3, 4, 5, 6, 7, 8, 9, 10, 11, 12, 13, 14] hP hD (by decide) rfl
          have hK9 := hK.sub (tys' := []) [] rfl
          rw [hQQ]
          exact W.iret (v := o123) hx hb hr (fun t ht hW => ⟨⟨o123, (), rfl, rfl, by rw [ht]; exact hP9, va_K.moved hW.alike hK9, hD9⟩, hS.F ht⟩) hS.2.2 (zat zrX10_asker_0_ok 52 rfl)
        · have h := (if_pos c114).symm.trans h
          refine lv_bipush (v := (-2)) hx hb (zat zrX10_asker_0_ok 48 rfl) (by decide) ?_
          refine lv_goto (tgt := 126) hx hb (zat zrX10_asker_0_ok 49 rfl) (by decide) ?_
          obtain rfl := Option.some.inj h
          obtain ⟨hP9, hD9⟩ := pd_sub ((a0, .inr (7, [.ref a3, g10, g11, .ref a4, g12, g13, g14, g15, .int o19.2.1, .int o19.2.2])) :: bX6 a3 up kp p_p (bX4 a4 un kn n_n [])) [15, 0, 1, 2, 3, 4, 5, 6, 7, 8, 9, 10, 11, 12, 13, 14] hP hD (by decide) rfl
          have hK9 := hK.sub (tys' := []) [] rfl
          rw [hQQ]
          exact W.iret (v := (-2 : Int32)) hx hb hr (fun t ht hW => ⟨⟨(-2 : Int32), (), rfl, rfl, by rw [ht]; exact hP9, va_K.moved hW.alike hK9, hD9⟩, hS.F ht⟩) hS.2.2 (zat zrX10_asker_0_ok 52 rfl)
      have h := (if_neg c38_3).symm.trans h
      by_cases c38_4 : k2 = 4
      · have h := (if_pos c38_4).symm.trans h
        refine lv_tableIn (tgt := 127) hx hb dX10_asker_38 (by rw [c38_4] <;> decide) (by rw [c38_4] <;> decide) (by rw [c38_4] <;> rfl) (by decide) ?_
        refine lv_aload_n hx hb (zat zrX10_asker_0_ok 53 rfl) rfl (lv_at hl 1 rfl) ?_
        refine va_get (D := (dC, dI)) (ci := 7) (v := .ref a4) (C := RX10) (T := TX10) (N := 10) hx hb hts ifX10_asker_X10 hown hK hP 15 rfl rfl 3 (by decide) (hts (.fieldLink RX10 29 "HookPier" "now" "LHookPier$Now;") (List.mem_of_getElem? (i := 7) rfl)) (fun _ h9 => h9) rfl (zat zrX10_asker_0_ok 54 rfl) ?_
        refine lv_aload_n hx hb (zat zrX10_asker_0_ok 55 rfl) rfl (lv_at hl 1 rfl) ?_
        refine va_get (D := (dC, dI)) (ci := 7) (v := .ref a3) (C := RX10) (T := TX10) (N := 10) hx hb hts ifX10_asker_X10 hown hK hP 15 rfl rfl 0 (by decide) (hts (.fieldLink RX10 10 "HookPier" "plan" "LHookPier$Plan;") (List.mem_of_getElem? (i := 9) rfl)) (fun _ h9 => h9) rfl (zat zrX10_asker_0_ok 56 rfl) ?_
        refine va_get (D := (dC, dI)) (ci := 4) (v := .int p_p.2.2.2.2.2.2.1) (C := RX6) (T := TX6) (N := 18) hx hb hts ifX10_asker_X6 hown hK hP 0 rfl rfl 6 (by decide) (hts (.fieldLink RX10 96 "HookPier$Plan" "answers" "I") (List.mem_of_getElem? (i := 17) rfl)) (fun _ h9 => h9) rfl (zat zrX10_asker_0_ok 57 rfl) ?_
        refine lv_iload_n hx hb (zat zrX10_asker_0_ok 58 rfl) rfl (lv_at hl 2 rfl) ?_
        obtain ⟨o139, eo139, h⟩ := bd_of h
        refine ck_i (wc := (bX4 a4 un kn n_n [])) (wr := (bX6 a3 up kp p_p ([(a0, .inr (7, [.ref a3, g10, g11, .ref a4, g12, g13, g14, g15, .int o19.2.1, .int o19.2.2]))]))) hP hD hK hS hA [10, 11, 12, 13, 14] [0, 1, 2, 3, 4, 5, 6, 7, 8, 9, 15] rfl rfl (by decide) (by decide) (by decide) (fun hPc hDc => (va_runV (As := [.int p_p.2.2.2.2.2.2.1, .int k1]) (rest := []) ⟨hx, hb, hml, hown, hts⟩ (kfX4_landedBits l dC dI a4 p_p.2.2.2.2.2.2.1 k1 un kn n_n H.size o139 eo139) (cwV 2 hts gfX10_asker_5 rfl rfl rfl (by decide +kernel) ⟨(Nat.le_of_ble_eq_true rfl), (Nat.le_of_ble_eq_true rfl)⟩) (PV hPc (hK.sub (tys' := (tX4 kn ([]))) [9, 10, 11, 12] rfl) hDc hN 0 rfl rfl) rfl rfl hl.1 rfl (lv_room (Nat.le_of_ble_eq_true rfl)) (zat zrX10_asker_0_ok 59 rfl) ⟨(Nat.le_of_ble_eq_true rfl), (Nat.le_of_ble_eq_true rfl)⟩)) (fun r139 _ H locs hw hP hD _ hS => ?_)
        obtain rfl := hw.symm
        obtain ⟨hP, hD⟩ := pd_mk (bX6 a3 up kp p_p ((a0, .inr (7, [.ref a3, g10, g11, .ref a4, g12, g13, g14, g15, .int o19.2.1, .int o19.2.2])) :: bX4 a4 un kn n_n [])) hP hD
        obtain rfl := Option.some.inj h
        obtain ⟨hP9, hD9⟩ := pd_sub ((a0, .inr (7, [.ref a3, g10, g11, .ref a4, g12, g13, g14, g15, .int o19.2.1, .int o19.2.2])) :: bX6 a3 up kp p_p (bX4 a4 un kn n_n [])) [10, 0, 1, 2, 3, 4, 5, 6, 7, 8, 9, 11, 12, 13, 14, 15] hP hD (by decide) rfl
        have hK9 := hK.sub (tys' := []) [] rfl
        rw [hQQ]
        exact W.iret (v := o139) hx hb hr (fun t ht hW => ⟨⟨o139, (), rfl, rfl, by rw [ht]; exact hP9, va_K.moved hW.alike hK9, hD9⟩, hS.F ht⟩) hS.2.2 (zat zrX10_asker_0_ok 60 rfl)
      have h := (if_neg c38_4).symm.trans h
      refine lv_tableOut (tgt := 143) hx hb dX10_asker_38 (by simp only [fa_eq, ltv_0, ltv_1, ltv_2, ltv_3, ltv_4] at c38_0 c38_1 c38_2 c38_3 c38_4; omega) (by decide) ?_
      refine lv_iload_n hx hb (zat zrX10_asker_0_ok 61 rfl) rfl (lv_at hl 0 rfl) ?_
      refine lv_iconst (v := (-1)) hx hb (zat zrX10_asker_0_ok 62 rfl) (by decide) ?_
      refine lv_icmp_eq (tgt := 171) hx hb (zat zrX10_asker_0_ok 63 rfl) (by decide) (fun c145 => ?_) (fun c145 => ?_)
      · have h := (if_pos c145).symm.trans h
        refine lv_iconst (v := 0) hx hb (zat zrX10_asker_1_ok 11 rfl) (by decide) ?_
        obtain rfl := Option.some.inj h
        obtain ⟨hP9, hD9⟩ := pd_sub ((a0, .inr (7, [.ref a3, g10, g11, .ref a4, g12, g13, g14, g15, .int o19.2.1, .int o19.2.2])) :: bX6 a3 up kp p_p (bX4 a4 un kn n_n [])) [15, 0, 1, 2, 3, 4, 5, 6, 7, 8, 9, 10, 11, 12, 13, 14] hP hD (by decide) rfl
        have hK9 := hK.sub (tys' := []) [] rfl
        rw [hQQ]
        exact W.iret (v := (0 : Int32)) hx hb hr (fun t ht hW => ⟨⟨(0 : Int32), (), rfl, rfl, by rw [ht]; exact hP9, va_K.moved hW.alike hK9, hD9⟩, hS.F ht⟩) hS.2.2 (zat zrX10_asker_1_ok 12 rfl)
      · have h := (if_neg c145).symm.trans h
        refine lv_aload_n hx hb (zat zrX10_asker_1_ok 0 rfl) rfl (lv_at hl 1 rfl) ?_
        refine va_get (D := (dC, dI)) (ci := 7) (v := .ref a4) (C := RX10) (T := TX10) (N := 10) hx hb hts ifX10_asker_X10 hown hK hP 15 rfl rfl 3 (by decide) (hts (.fieldLink RX10 29 "HookPier" "now" "LHookPier$Now;") (List.mem_of_getElem? (i := 7) rfl)) (fun _ h9 => h9) rfl (zat zrX10_asker_1_ok 1 rfl) ?_
        refine lv_aload_n hx hb (zat zrX10_asker_1_ok 2 rfl) rfl (lv_at hl 1 rfl) ?_
        refine va_get (D := (dC, dI)) (ci := 7) (v := .ref a3) (C := RX10) (T := TX10) (N := 10) hx hb hts ifX10_asker_X10 hown hK hP 15 rfl rfl 0 (by decide) (hts (.fieldLink RX10 10 "HookPier" "plan" "LHookPier$Plan;") (List.mem_of_getElem? (i := 9) rfl)) (fun _ h9 => h9) rfl (zat zrX10_asker_1_ok 3 rfl) ?_
        refine lv_iload_n hx hb (zat zrX10_asker_1_ok 4 rfl) rfl (lv_at hl 2 rfl) ?_
        refine lv_iload_n hx hb (zat zrX10_asker_1_ok 5 rfl) rfl (lv_at hl 0 rfl) ?_
        obtain ⟨o158, eo158⟩ : ∃ o, o = f_X10_spotOf (n_n.2.2.2.2.2.2 (k1).toNatClampNeg) := ⟨_, rfl⟩
        have h := nm_of h o158 eo158
        refine ck_i (wc := []) (wr := (bX6 a3 up kp p_p (bX4 a4 un kn n_n ([(a0, .inr (7, [.ref a3, g10, g11, .ref a4, g12, g13, g14, g15, .int o19.2.1, .int o19.2.2]))])))) hP hD hK hS hA [] [0, 1, 2, 3, 4, 5, 6, 7, 8, 9, 10, 11, 12, 13, 14, 15] rfl rfl (by decide) (by decide) (by decide) (fun hPc hDc => (va_runS (As := [.int (n_n.2.2.2.2.2.2 (k1).toNatClampNeg)]) (rest := [.int k1, .ref a3, .ref a4]) ⟨hx, hb, hml, hown, hts⟩ (kfX10_spotOf l dC dI (n_n.2.2.2.2.2.2 (k1).toNatClampNeg) H.size o158 eo158.symm) (va_cwS 1 hts gfX10_asker_2 rfl rfl rfl (by decide +kernel) ⟨(Nat.le_of_ble_eq_true rfl), (Nat.le_of_ble_eq_true rfl)⟩) (PS hPc (hK.sub (tys' := ([])) [] rfl) hDc hN) rfl rfl hl.1 rfl (lv_room (Nat.le_of_ble_eq_true rfl)) (zat zrX10_asker_1_ok 6 rfl) ⟨(Nat.le_of_ble_eq_true rfl), (Nat.le_of_ble_eq_true rfl)⟩)) (fun r158 _ H locs hw hP hD _ hS => ?_)
        obtain rfl := hw.symm
        obtain ⟨hP, hD⟩ := pd_mk (bX6 a3 up kp p_p (bX4 a4 un kn n_n ([(a0, .inr (7, [.ref a3, g10, g11, .ref a4, g12, g13, g14, g15, .int o19.2.1, .int o19.2.2]))]))) hP hD
        obtain ⟨o161, eo161, h⟩ := bd_of h
        refine ck_i (wc := (bX4 a4 un kn n_n (bX6 a3 up kp p_p []))) (wr := ([(a0, .inr (7, [.ref a3, g10, g11, .ref a4, g12, g13, g14, g15, .int o19.2.1, .int o19.2.2]))])) hP hD hK hS hA [10, 11, 12, 13, 14, 0, 1, 2, 3, 4, 5, 6, 7, 8, 9] [15] rfl rfl (by decide) (by decide) (by decide) (fun hPc hDc => (va_runV (As := [.ref a3, .int k1, .int o158]) (rest := []) ⟨hx, hb, hml, hown, hts⟩ (kfX4_isTangled l dC dI a4 a3 k1 o158 un kn up kp n_n p_p H.size o161 eo161) (cwV 3 hts gfX10_asker_6 rfl rfl rfl (by decide +kernel) ⟨(Nat.le_of_ble_eq_true rfl), (Nat.le_of_ble_eq_true rfl)⟩) (PV hPc (hK.sub (tys' := (tX4 kn (tX6 kp ([])))) [9, 10, 11, 12, 0, 1, 2, 3, 4, 5, 6, 7, 8] rfl) hDc hN 0 rfl rfl) rfl rfl hl.1 rfl (lv_room (Nat.le_of_ble_eq_true rfl)) (zat zrX10_asker_1_ok 7 rfl) ⟨(Nat.le_of_ble_eq_true rfl), (Nat.le_of_ble_eq_true rfl)⟩)) (fun r161 _ H locs hw hP hD _ hS => ?_)
        obtain ⟨hw, br161⟩ := hw
        obtain rfl := hw.symm
        obtain ⟨hP, hD⟩ := pd_mk ((a0, .inr (7, [.ref a3, g10, g11, .ref a4, g12, g13, g14, g15, .int o19.2.1, .int o19.2.2])) :: bX4 a4 un kn n_n (bX6 a3 up kp p_p [])) hP hD
        refine lv_if_eq (tgt := 171) hx hb (zat zrX10_asker_1_ok 8 rfl) (by decide) (fun c164 => ?_) (fun c164 => ?_)
        · have h := (if_pos c164).symm.trans h
          refine lv_iconst (v := 0) hx hb (zat zrX10_asker_1_ok 11 rfl) (by decide) ?_
          obtain rfl := Option.some.inj h
          obtain ⟨hP9, hD9⟩ := pd_sub ((a0, .inr (7, [.ref a3, g10, g11, .ref a4, g12, g13, g14, g15, .int o19.2.1, .int o19.2.2])) :: bX6 a3 up kp p_p (bX4 a4 un kn n_n [])) [0, 6, 7, 8, 9, 10, 11, 12, 13, 14, 15, 1, 2, 3, 4, 5] hP hD (by decide) rfl
          have hK9 := hK.sub (tys' := []) [] rfl
          rw [hQQ]
          exact W.iret (v := (0 : Int32)) hx hb hr (fun t ht hW => ⟨⟨(0 : Int32), (), rfl, rfl, by rw [ht]; exact hP9, va_K.moved hW.alike hK9, hD9⟩, hS.F ht⟩) hS.2.2 (zat zrX10_asker_1_ok 12 rfl)
        · have h := (if_neg c164).symm.trans h
          refine lv_iconst (v := 1) hx hb (zat zrX10_asker_1_ok 9 rfl) (by decide) ?_
          refine lv_goto (tgt := 172) hx hb (zat zrX10_asker_1_ok 10 rfl) (by decide) ?_
          obtain rfl := Option.some.inj h
          obtain ⟨hP9, hD9⟩ := pd_sub ((a0, .inr (7, [.ref a3, g10, g11, .ref a4, g12, g13, g14, g15, .int o19.2.1, .int o19.2.2])) :: bX6 a3 up kp p_p (bX4 a4 un kn n_n [])) [0, 6, 7, 8, 9, 10, 11, 12, 13, 14, 15, 1, 2, 3, 4, 5] hP hD (by decide) rfl
          have hK9 := hK.sub (tys' := []) [] rfl
          rw [hQQ]
          exact W.iret (v := (1 : Int32)) hx hb hr (fun t ht hW => ⟨⟨(1 : Int32), (), rfl, rfl, by rw [ht]; exact hP9, va_K.moved hW.alike hK9, hD9⟩, hS.F ht⟩) hS.2.2 (zat zrX10_asker_1_ok 12 rfl)
    · have h := (if_neg c22).symm.trans h
      refine lv_iconst (v := (-1)) hx hb (zat zrX10_asker_0_ok 13 rfl) (by decide) ?_
      obtain rfl := Option.some.inj h
      obtain ⟨hP9, hD9⟩ := pd_sub ((a0, .inr (7, [.ref a3, g10, g11, .ref a4, g12, g13, g14, g15, .int o19.2.1, .int o19.2.2])) :: bX6 a3 up kp p_p (bX4 a4 un kn n_n [])) [15, 0, 1, 2, 3, 4, 5, 6, 7, 8, 9, 10, 11, 12, 13, 14] hP hD (by decide) rfl
      have hK9 := hK.sub (tys' := []) [] rfl
      rw [hQQ]
      exact W.iret (v := (-1 : Int32)) hx hb hr (fun t ht hW => ⟨⟨(-1 : Int32), (), rfl, rfl, by rw [ht]; exact hP9, va_K.moved hW.alike hK9, hD9⟩, hS.F ht⟩) hS.2.2 (zat zrX10_asker_0_ok 14 rfl)
  refine lv_if_eq (tgt := 18) hx hb (zat zrX10_asker_0_ok 5 rfl) (by decide) (fun c7 => ?_) (fun c7 => ?_)
  · have h := (if_pos c7).symm.trans h
    refine lv_iconst (v := 1) hx hb (zat zrX10_asker_0_ok 10 rfl) (by decide) ?_
    exact J19 (1 : Int32) H _ ls h  hP hD hS (lv_sub hl [0, 1, 2] rfl)
  · have h := (if_neg c7).symm.trans h
    refine lv_aload_n hx hb (zat zrX10_asker_0_ok 6 rfl) rfl (lv_at hl 0 rfl) ?_
    refine lv_iload_n hx hb (zat zrX10_asker_0_ok 7 rfl) rfl (lv_at hl 1 rfl) ?_
    obtain ⟨o12, eo12⟩ : ∃ o, o = f_X10_askerTrouble k1 p_p := ⟨_, rfl⟩
    have h := nm_of h o12 eo12
    refine ck_i (wc := ((a0, .inr (7, [.ref a3, g10, g11, .ref a4, g12, g13, g14, g15, .int x_x.1, .int x_x.2])) :: bX6 a3 up kp p_p [])) (wr := (bX4 a4 un kn n_n [])) hP hD hK hS hA [0, 1, 2, 3, 4, 5, 6, 7, 8, 9, 10] [11, 12, 13, 14, 15] rfl rfl (by decide) (by decide) (by decide) (fun hPc hDc => (va_runV (As := [.int k1]) (rest := [.ref a0]) ⟨hx, hb, hml, hown, hts⟩ (kfX10_askerTrouble l dC dI a0 k1 a3 up kp (g10) (g11) (.ref a4) (g12) (g13) (g14) (g15) (.int x_x.1) (.int x_x.2) p_p H.size o12 eo12.symm) (cwV 1 hts gfX10_asker_7 rfl rfl rfl (by decide +kernel) ⟨(Nat.le_of_ble_eq_true rfl), (Nat.le_of_ble_eq_true rfl)⟩) (PV hPc (hK.sub (tys' := (tX6 kp ([]))) [0, 1, 2, 3, 4, 5, 6, 7, 8] rfl) hDc hN 0 rfl rfl) rfl rfl hl.1 rfl (lv_room (Nat.le_of_ble_eq_true rfl)) (zat zrX10_asker_0_ok 8 rfl) ⟨(Nat.le_of_ble_eq_true rfl), (Nat.le_of_ble_eq_true rfl)⟩)) (fun r12 _ H locs hw hP hD _ hS => ?_)
    obtain rfl := hw.symm
    obtain ⟨hP, hD⟩ := pd_mk (bX4 a4 un kn n_n ((a0, .inr (7, [.ref a3, g10, g11, .ref a4, g12, g13, g14, g15, .int x_x.1, .int x_x.2])) :: bX6 a3 up kp p_p [])) hP hD
    refine lv_goto (tgt := 19) hx hb (zat zrX10_asker_0_ok 9 rfl) (by decide) ?_
    exact J19 o12 H _ ls h  (hP.sub (ws' := ((a0, .inr (7, [.ref a3, g10, g11, .ref a4, g12, g13, g14, g15, .int x_x.1, .int x_x.2])) :: bX6 a3 up kp p_p (bX4 a4 un kn n_n []))) [5, 6, 7, 8, 9, 10, 11, 12, 13, 14, 15, 0, 1, 2, 3, 4] rfl) (hD.sub (ws' := ((a0, .inr (7, [.ref a3, g10, g11, .ref a4, g12, g13, g14, g15, .int x_x.1, .int x_x.2])) :: bX6 a3 up kp p_p (bX4 a4 un kn n_n []))) [5, 6, 7, 8, 9, 10, 11, 12, 13, 14, 15, 0, 1, 2, 3, 4] (by decide) rfl) hS (lv_sub hl [0, 1, 2] rfl)
noncomputable def zrX10_close_0 : List ZR := zc 0 true (.aload_n 0) 1 (zc 1 true (.aload_n 0) 1 (zc 2 true (.iload_n 1) 1 (zc 3 true (.iconst 0) 1 (zc 4 true (.sipush 999) 3 (zc 7 true (.invokestatic 75) 3 (zc 10 true (.invokevirtual 169) 3 (zc 13 true (.invokevirtual 79) 3 (zc 16 true (.ifCond .eq 5) 3 (zc 19 true (.iconst (-1)) 1 (zc 20 true (.ireturn) 1 (zc 21 true (.aload_n 0) 1 (zc 22 true (.getfield 10) 3 (zc 25 true (.iload_n 1) 1 (zc 26 true (.invokevirtual 173) 3 (zc 29 true (.ifCond .eq 7) 3 (zc 32 true (.iconst 1) 1 (zc 33 true (.goto 4) 3 (zc 36 true (.iconst 0) 1 (zc 37 true (.ireturn) 1 ([]))))))))))))))))))))
theorem zrX10_close_0_ok : zck 0 ((zby cX10_close).drop 0) zrX10_close_0 = true := by decide +kernel
def vfX10_close : List Cond := List.cons (.code yX10_close cX10_close 2 (some .int)) (apW [.methodLink RX10 75 yX10_within, .static yX10_within, .initialized RX10, .methodLink RX10 169 yX10_numberTrouble, .instanceMethod yX10_numberTrouble, .selects RX10 yX10_numberTrouble yX10_numberTrouble, .methodLink RX10 79 yX10_refused, .instanceMethod yX10_refused, .selects RX10 yX10_refused yX10_refused, .fieldLink RX10 10 "HookPier" "plan" "LHookPier$Plan;", .methodLink RX10 173 yX6_isClose, .instanceMethod yX6_isClose, .selects RX6 yX6_isClose yX6_isClose, .initialized RX6] (apW wsX100 (apW vfX10_within (apW vfX10_numberTrouble (apW vfX10_refused (vfX6_isClose))))))
theorem ifX10_close_X10 : ∀ w ∈ wsX100, w ∈ vfX10_close := fun _ h => (List.mem_cons_of_mem _ (List.mem_append_right _ (List.mem_append_left _ h)))
theorem qfX10_close : Good vfX10_close := gd_cons (by decide +kernel) (gd_app (gd_dec (by decide +kernel) : Good [.methodLink RX10 75 yX10_within, .static yX10_within, .initialized RX10, .methodLink RX10 169 yX10_numberTrouble, .instanceMethod yX10_numberTrouble, .selects RX10 yX10_numberTrouble yX10_numberTrouble, .methodLink RX10 79 yX10_refused, .instanceMethod yX10_refused, .selects RX10 yX10_refused yX10_refused, .fieldLink RX10 10 "HookPier" "plan" "LHookPier$Plan;", .methodLink RX10 173 yX6_isClose, .instanceMethod yX6_isClose, .selects RX6 yX6_isClose yX6_isClose, .initialized RX6]) (gd_app qsX10 (gd_app qfX10_within (gd_app qfX10_numberTrouble (gd_app qfX10_refused qfX6_isClose)))))
theorem gfX10_close_0 : GoodIn vfX10_close (va_wsS RX10 75 yX10_within vfX10_within) := goodIn_app (goodIn_r [.methodLink RX10 75 yX10_within, .static yX10_within, .initialized RX10] [1, 2, 3] rfl (by decide +kernel)) (goodIn_m (fun _ h => (List.mem_cons_of_mem _ (List.mem_append_right _ (List.mem_append_right _ (List.mem_append_left _ h))))) qfX10_within)
theorem gfX10_close_1 : GoodIn vfX10_close (wsV RX10 169 RX10 yX10_numberTrouble vfX10_numberTrouble) := goodIn_app (goodIn_r [.methodLink RX10 169 yX10_numberTrouble, .instanceMethod yX10_numberTrouble, .selects RX10 yX10_numberTrouble yX10_numberTrouble, .initialized RX10] [4, 5, 6, 3] rfl (by decide +kernel)) (goodIn_m (fun _ h => (List.mem_cons_of_mem _ (List.mem_append_right _ (List.mem_append_right _ (List.mem_append_right _ (List.mem_append_left _ h)))))) qfX10_numberTrouble)
theorem gfX10_close_2 : GoodIn vfX10_close (wsV RX10 79 RX10 yX10_refused vfX10_refused) := goodIn_app (goodIn_r [.methodLink RX10 79 yX10_refused, .instanceMethod yX10_refused, .selects RX10 yX10_refused yX10_refused, .initialized RX10] [7, 8, 9, 3] rfl (by decide +kernel)) (goodIn_m (fun _ h => (List.mem_cons_of_mem _ (List.mem_append_right _ (List.mem_append_right _ (List.mem_append_right _ (List.mem_append_right _ (List.mem_append_left _ h))))))) qfX10_refused)
theorem gfX10_close_3 : GoodIn vfX10_close (wsV RX10 173 RX6 yX6_isClose vfX6_isClose) := goodIn_app (goodIn_r [.methodLink RX10 173 yX6_isClose, .instanceMethod yX6_isClose, .selects RX6 yX6_isClose yX6_isClose, .initialized RX6] [11, 12, 13, 14] rfl (by decide +kernel)) (goodIn_m (fun _ h => (List.mem_cons_of_mem _ (List.mem_append_right _ (List.mem_append_right _ (List.mem_append_right _ (List.mem_append_right _ (List.mem_append_right _ h))))))) qfX6_isClose)
set_option maxHeartbeats 2000000 in
set_option maxRecDepth 100000 in
theorem kfX10_close (l : Launch) (dC : Nat → ClassId) (dI : Nat → Nat → Nat) (a0 : Nat) (k1 : Int32) (a2 : Nat) (up : Nat → Nat) (kp : Nat → ClassId) (x_x : TX10_x) (g6 : Value) (g7 : Value) (g8 : Value) (g9 : Value) (g10 : Value) (g11 : Value) (g12 : Value) (p_p : TX6_p) (sz : Nat) (out : (Int32 × TX10_x)) (h : f_X10_close k1 x_x p_p = out) : KCi l yX10_close vfX10_close ({ frames := 2, cells := 0, slots := 0, locals := 43 }) (dC, dI) [.ref a0, .int k1] sz ((a0, .inr (7, [.ref a2, g6, g7, g8, g9, g10, g11, g12, .int x_x.1, .int x_x.2])) :: bX6 a2 up kp p_p []) (tX6 kp ([])) (fun (r : Int32) _ => r = out.1) ((a0, .inr (7, [.ref a2, g6, g7, g8, g9, g10, g11, g12, .int out.2.1, .int out.2.2])) :: bX6 a2 up kp p_p []) 0 0 := by
  refine Met.ofW (cc := cX10_close) (maxL := 2) (ret := (some .int)) (by decide) rfl ?_
  intro p e s m args below meth c s₁ B0 hml hv
  obtain ⟨rfl, hsz, hP, hK, hD0, hN⟩ := hv
  have hx := B0.exec
  have hb := B0.bytes
  have hr := B0.returns
  have hts := atoms_spec (ws := vfX10_close) B0.pre
  have hown : s.vm.findClass RX10 = some m.cls := findClass_of_methodNamed B0.named
  have hlocks := B0.notSynchronized
  subst hsz
  have hD := hD0.self (sz := s.heap.size)
  generalize hAe : va_A ((a0, .inr (7, [.ref a2, g6, g7, g8, g9, g10, g11, g12, .int x_x.1, .int x_x.2])) :: bX6 a2 up kp p_p []) s.heap.size = A at hD ⊢
  have hA : ∀ q : Nat, s.heap.size ≤ q → A q := fun q h => by rw [← hAe]; exact Or.inr h
  have hS : va_S A s.heap s.heap [] := va_S.rf
  have hP : va_P (dC, dI) vwCl ((a0, .inr (7, [.ref a2, g6, g7, g8, g9, g10, g11, g12, .int x_x.1, .int x_x.2])) :: bX6 a2 up kp p_p []) s.heap := hP
  have hl := lv_entry ([.ref a0, .int k1]) (n := 2) (Nat.le_of_ble_eq_true rfl)
  rw [lg_entry_eq]
  generalize (lg_sl ([.ref a0, .int k1]) ++ List.replicate (2 - (lg_sl ([.ref a0, .int k1])).length) Slot.unset).toArray = ls at hl ⊢
  have hl : lv_has ls 2 [(0, .ref a0), (1, .int k1)] := hl
  refine W_q (fun QQ hQQ => ?_)
  rw [f_X10_close] at h
  refine lv_aload_n hx hb (zat zrX10_close_0_ok 0 rfl) rfl (lv_at hl 0 rfl) ?_
  refine lv_aload_n hx hb (zat zrX10_close_0_ok 1 rfl) rfl (lv_at hl 0 rfl) ?_
  refine lv_iload_n hx hb (zat zrX10_close_0_ok 2 rfl) rfl (lv_at hl 1 rfl) ?_
  refine lv_iconst (v := 0) hx hb (zat zrX10_close_0_ok 3 rfl) (by decide) ?_
  refine lv_sipush (v := 999) hx hb (zat zrX10_close_0_ok 4 rfl) (by decide) ?_
  obtain ⟨o7, eo7⟩ : ∃ o, o = f_X10_within k1 (0 : Int32) (999 : Int32) := ⟨_, rfl⟩
  have h := nm_of h o7 eo7
  refine ck_i (wc := []) (wr := ((a0, .inr (7, [.ref a2, g6, g7, g8, g9, g10, g11, g12, .int x_x.1, .int x_x.2])) :: bX6 a2 up kp p_p [])) hP hD hK hS hA [] [0, 1, 2, 3, 4, 5, 6, 7, 8, 9, 10] rfl rfl (by decide) (by decide) (by decide) (fun hPc hDc => (va_runS (As := [.int k1, .int 0, .int 999]) (rest := [.ref a0, .ref a0]) ⟨hx, hb, hml, hown, hts⟩ (kfX10_within l dC dI k1 (0 : Int32) (999 : Int32) s.heap.size o7 eo7.symm) (va_cwS 3 hts gfX10_close_0 rfl rfl rfl (by decide +kernel) ⟨(Nat.le_of_ble_eq_true rfl), (Nat.le_of_ble_eq_true rfl)⟩) (PS hPc (hK.sub (tys' := ([])) [] rfl) hDc hN) rfl rfl hl.1 rfl (lv_room (Nat.le_of_ble_eq_true rfl)) (zat zrX10_close_0_ok 5 rfl) ⟨(Nat.le_of_ble_eq_true rfl), (Nat.le_of_ble_eq_true rfl)⟩)) (fun r7 _ H locs hw hP hD _ hS => ?_)
  obtain ⟨hw, br7⟩ := hw
  obtain rfl := hw.symm
  obtain ⟨hP, hD⟩ := pd_mk ((a0, .inr (7, [.ref a2, g6, g7, g8, g9, g10, g11, g12, .int x_x.1, .int x_x.2])) :: bX6 a2 up kp p_p []) hP hD
  obtain ⟨o10, eo10⟩ : ∃ o, o = f_X10_numberTrouble o7 p_p := ⟨_, rfl⟩
  have h := nm_of h o10 eo10
  refine ck_i (wc := ((a0, .inr (7, [.ref a2, g6, g7, g8, g9, g10, g11, g12, .int x_x.1, .int x_x.2])) :: bX6 a2 up kp p_p [])) (wr := []) hP hD hK hS hA [0, 1, 2, 3, 4, 5, 6, 7, 8, 9, 10] [] rfl rfl (by decide) (by decide) (by decide) (fun hPc hDc => (va_runV (As := [.int o7]) (rest := [.ref a0]) ⟨hx, hb, hml, hown, hts⟩ (kfX10_numberTrouble l dC dI a0 o7 a2 up kp (g6) (g7) (g8) (g9) (g10) (g11) (g12) (.int x_x.1) (.int x_x.2) p_p H.size o10 eo10.symm) (cwV 1 hts gfX10_close_1 rfl rfl rfl (by decide +kernel) ⟨(Nat.le_of_ble_eq_true rfl), (Nat.le_of_ble_eq_true rfl)⟩) (PV hPc (hK.sub (tys' := (tX6 kp ([]))) [0, 1, 2, 3, 4, 5, 6, 7, 8] rfl) hDc hN 0 rfl rfl) rfl rfl hl.1 rfl (lv_room (Nat.le_of_ble_eq_true rfl)) (zat zrX10_close_0_ok 6 rfl) ⟨(Nat.le_of_ble_eq_true rfl), (Nat.le_of_ble_eq_true rfl)⟩)) (fun r10 _ H locs hw hP hD _ hS => ?_)
  obtain rfl := hw.symm
  obtain ⟨hP, hD⟩ := pd_mk ((a0, .inr (7, [.ref a2, g6, g7, g8, g9, g10, g11, g12, .int x_x.1, .int x_x.2])) :: bX6 a2 up kp p_p []) hP hD
  obtain ⟨o13, eo13⟩ : ∃ o, o = f_X10_refused o10 x_x := ⟨_, rfl⟩
  have h := nm_of h o13 eo13
  refine ck_i (wc := ([(a0, .inr (7, [.ref a2, g6, g7, g8, g9, g10, g11, g12, .int x_x.1, .int x_x.2]))])) (wr := (bX6 a2 up kp p_p [])) hP hD hK hS hA [0] [1, 2, 3, 4, 5, 6, 7, 8, 9, 10] rfl rfl (by decide) (by decide) (by decide) (fun hPc hDc => (va_runV (As := [.int o10]) (rest := []) ⟨hx, hb, hml, hown, hts⟩ (kfX10_refused l dC dI a0 o10 x_x (.ref a2) (g6) (g7) (g8) (g9) (g10) (g11) (g12) H.size o13 eo13.symm) (cwV 1 hts gfX10_close_2 rfl rfl rfl (by decide +kernel) ⟨(Nat.le_of_ble_eq_true rfl), (Nat.le_of_ble_eq_true rfl)⟩) (PV hPc (hK.sub (tys' := ([])) [] rfl) hDc hN 0 rfl rfl) rfl rfl hl.1 rfl (lv_room (Nat.le_of_ble_eq_true rfl)) (zat zrX10_close_0_ok 7 rfl) ⟨(Nat.le_of_ble_eq_true rfl), (Nat.le_of_ble_eq_true rfl)⟩)) (fun r13 _ H locs hw hP hD _ hS => ?_)
  obtain ⟨hw, br13⟩ := hw
  obtain rfl := hw
  obtain ⟨hP, hD⟩ := pd_mk (bX6 a2 up kp p_p ([(a0, .inr (7, [.ref a2, g6, g7, g8, g9, g10, g11, g12, .int o13.2.1, .int o13.2.2]))])) hP hD
  refine lv_if_eq (tgt := 21) hx hb (zat zrX10_close_0_ok 8 rfl) (by decide) (fun c16 => ?_) (fun c16 => ?_)
  · have h := (if_pos c16).symm.trans h
    refine lv_aload_n hx hb (zat zrX10_close_0_ok 11 rfl) rfl (lv_at hl 0 rfl) ?_
    refine va_get (D := (dC, dI)) (ci := 7) (v := .ref a2) (C := RX10) (T := TX10) (N := 10) hx hb hts ifX10_close_X10 hown hK hP 10 rfl rfl 0 (by decide) (hts (.fieldLink RX10 10 "HookPier" "plan" "LHookPier$Plan;") (List.mem_of_getElem? (i := 10) rfl)) (fun _ h9 => h9) rfl (zat zrX10_close_0_ok 12 rfl) ?_
    refine lv_iload_n hx hb (zat zrX10_close_0_ok 13 rfl) rfl (lv_at hl 1 rfl) ?_
    obtain ⟨o26, eo26⟩ : ∃ o, o = f_X6_isClose k1 p_p := ⟨_, rfl⟩
    have h := nm_of h o26 eo26
    refine ck_i (wc := (bX6 a2 up kp p_p [])) (wr := ([(a0, .inr (7, [.ref a2, g6, g7, g8, g9, g10, g11, g12, .int o13.2.1, .int o13.2.2]))])) hP hD hK hS hA [0, 1, 2, 3, 4, 5, 6, 7, 8, 9] [10] rfl rfl (by decide) (by decide) (by decide) (fun hPc hDc => (va_runV (As := [.int k1]) (rest := []) ⟨hx, hb, hml, hown, hts⟩ (kfX6_isClose l dC dI a2 k1 up kp p_p H.size o26 eo26.symm) (cwV 1 hts gfX10_close_3 rfl rfl rfl (by decide +kernel) ⟨(Nat.le_of_ble_eq_true rfl), (Nat.le_of_ble_eq_true rfl)⟩) (PV hPc (hK.sub (tys' := (tX6 kp ([]))) [0, 1, 2, 3, 4, 5, 6, 7, 8] rfl) hDc hN 0 rfl rfl) rfl rfl hl.1 rfl (lv_room (Nat.le_of_ble_eq_true rfl)) (zat zrX10_close_0_ok 14 rfl) ⟨(Nat.le_of_ble_eq_true rfl), (Nat.le_of_ble_eq_true rfl)⟩)) (fun r26 _ H locs hw hP hD _ hS => ?_)
    obtain ⟨hw, br26⟩ := hw
    obtain rfl := hw.symm
    obtain ⟨hP, hD⟩ := pd_mk ((a0, .inr (7, [.ref a2, g6, g7, g8, g9, g10, g11, g12, .int o13.2.1, .int o13.2.2])) :: bX6 a2 up kp p_p []) hP hD
    refine lv_if_eq (tgt := 36) hx hb (zat zrX10_close_0_ok 15 rfl) (by decide) (fun c29 => ?_) (fun c29 => ?_)
    · have h := (if_pos c29).symm.trans h
      refine lv_iconst (v := 0) hx hb (zat zrX10_close_0_ok 18 rfl) (by decide) ?_
      obtain rfl := h
      obtain ⟨hP9, hD9⟩ := pd_sub ((a0, .inr (7, [.ref a2, g6, g7, g8, g9, g10, g11, g12, .int o13.2.1, .int o13.2.2])) :: bX6 a2 up kp p_p []) [0, 1, 2, 3, 4, 5, 6, 7, 8, 9, 10] hP hD (by decide) rfl
      have hK9 := hK.sub (tys' := []) [] rfl
      rw [hQQ]
      exact W.iret (v := (0 : Int32)) hx hb hr (fun t ht hW => ⟨⟨(0 : Int32), (), rfl, rfl, by rw [ht]; exact hP9, va_K.moved hW.alike hK9, hD9⟩, hS.F ht⟩) hS.2.2 (zat zrX10_close_0_ok 19 rfl)
    · have h := (if_neg c29).symm.trans h
      refine lv_iconst (v := 1) hx hb (zat zrX10_close_0_ok 16 rfl) (by decide) ?_
      refine lv_goto (tgt := 37) hx hb (zat zrX10_close_0_ok 17 rfl) (by decide) ?_
      obtain rfl := h
      obtain ⟨hP9, hD9⟩ := pd_sub ((a0, .inr (7, [.ref a2, g6, g7, g8, g9, g10, g11, g12, .int o13.2.1, .int o13.2.2])) :: bX6 a2 up kp p_p []) [0, 1, 2, 3, 4, 5, 6, 7, 8, 9, 10] hP hD (by decide) rfl
      have hK9 := hK.sub (tys' := []) [] rfl
      rw [hQQ]
      exact W.iret (v := (1 : Int32)) hx hb hr (fun t ht hW => ⟨⟨(1 : Int32), (), rfl, rfl, by rw [ht]; exact hP9, va_K.moved hW.alike hK9, hD9⟩, hS.F ht⟩) hS.2.2 (zat zrX10_close_0_ok 19 rfl)
  · have h := (if_neg c16).symm.trans h
    refine lv_iconst (v := (-1)) hx hb (zat zrX10_close_0_ok 9 rfl) (by decide) ?_
    obtain rfl := h
    obtain ⟨hP9, hD9⟩ := pd_sub ((a0, .inr (7, [.ref a2, g6, g7, g8, g9, g10, g11, g12, .int o13.2.1, .int o13.2.2])) :: bX6 a2 up kp p_p []) [10, 0, 1, 2, 3, 4, 5, 6, 7, 8, 9] hP hD (by decide) rfl
    have hK9 := hK.sub (tys' := []) [] rfl
    rw [hQQ]
    exact W.iret (v := (-1 : Int32)) hx hb hr (fun t ht hW => ⟨⟨(-1 : Int32), (), rfl, rfl, by rw [ht]; exact hP9, va_K.moved hW.alike hK9, hD9⟩, hS.F ht⟩) hS.2.2 (zat zrX10_close_0_ok 10 rfl)
noncomputable def zrX10_wishTrouble_0 : List ZR := zc 0 true (.aload_n 0) 1 (zc 1 true (.iload_n 1) 1 (zc 2 true (.invokevirtual 102) 3 (zc 5 true (.istore 5) 2 (zc 7 true (.iload 5) 2 (zc 9 true (.ifCond .ne 14) 3 (zc 12 true (.aload_n 0) 1 (zc 13 true (.iload_n 2) 1 (zc 14 true (.iload_n 3) 1 (zc 15 true (.iload 4) 2 (zc 17 true (.invokevirtual 199) 3 (zc 20 true (.goto 5) 3 (zc 23 true (.iload 5) 2 (zc 25 true (.ireturn) 1 ([]))))))))))))))
theorem zrX10_wishTrouble_0_ok : zck 0 ((zby cX10_wishTrouble).drop 0) zrX10_wishTrouble_0 = true := by decide +kernel
def vfX10_wishTrouble : List Cond := List.cons (.code yX10_wishTrouble cX10_wishTrouble 6 (some .int)) (apW [.methodLink RX10 102 yX10_answerTrouble, .instanceMethod yX10_answerTrouble, .selects RX10 yX10_answerTrouble yX10_answerTrouble, .initialized RX10, .methodLink RX10 199 yX10_questionTrouble, .instanceMethod yX10_questionTrouble, .selects RX10 yX10_questionTrouble yX10_questionTrouble] (apW vfX10_answerTrouble (vfX10_questionTrouble)))
theorem qfX10_wishTrouble : Good vfX10_wishTrouble := gd_cons (by decide +kernel) (gd_app (gd_dec (by decide +kernel) : Good [.methodLink RX10 102 yX10_answerTrouble, .instanceMethod yX10_answerTrouble, .selects RX10 yX10_answerTrouble yX10_answerTrouble, .initialized RX10, .methodLink RX10 199 yX10_questionTrouble, .instanceMethod yX10_questionTrouble, .selects RX10 yX10_questionTrouble yX10_questionTrouble]) (gd_app qfX10_answerTrouble qfX10_questionTrouble))
theorem gfX10_wishTrouble_0 : GoodIn vfX10_wishTrouble (wsV RX10 102 RX10 yX10_answerTrouble vfX10_answerTrouble) := goodIn_app (goodIn_r [.methodLink RX10 102 yX10_answerTrouble, .instanceMethod yX10_answerTrouble, .selects RX10 yX10_answerTrouble yX10_answerTrouble, .initialized RX10] [1, 2, 3, 4] rfl (by decide +kernel)) (goodIn_m (fun _ h => (List.mem_cons_of_mem _ (List.mem_append_right _ (List.mem_append_left _ h)))) qfX10_answerTrouble)
theorem gfX10_wishTrouble_1 : GoodIn vfX10_wishTrouble (wsV RX10 199 RX10 yX10_questionTrouble vfX10_questionTrouble) := goodIn_app (goodIn_r [.methodLink RX10 199 yX10_questionTrouble, .instanceMethod yX10_questionTrouble, .selects RX10 yX10_questionTrouble yX10_questionTrouble, .initialized RX10] [5, 6, 7, 4] rfl (by decide +kernel)) (goodIn_m (fun _ h => (List.mem_cons_of_mem _ (List.mem_append_right _ (List.mem_append_right _ h)))) qfX10_questionTrouble)
set_option maxHeartbeats 2000000 in
set_option maxRecDepth 100000 in
theorem kfX10_wishTrouble (l : Launch) (dC : Nat → ClassId) (dI : Nat → Nat → Nat) (a0 : Nat) (k1 : Int32) (k2 : Int32) (k3 : Int32) (k4 : Int32) (a5 : Nat) (up : Nat → Nat) (kp : Nat → ClassId) (g8 : Value) (g9 : Value) (g10 : Value) (g11 : Value) (g12 : Value) (g13 : Value) (g14 : Value) (g15 : Value) (g16 : Value) (p_p : TX6_p) (sz : Nat) (out : Int32) (h : f_X10_wishTrouble k1 k2 k3 k4 p_p = out) : KDi l yX10_wishTrouble vfX10_wishTrouble ({ frames := 3, cells := 0, slots := 0, locals := 66 }) (dC, dI) [.ref a0, .int k1, .int k2, .int k3, .int k4] sz ((a0, .inr (7, [.ref a5, g8, g9, g10, g11, g12, g13, g14, g15, g16])) :: bX6 a5 up kp p_p []) (tX6 kp ([])) (fun (r : Int32) _ => r = out) 0 0 := by
  refine Met.ofW (cc := cX10_wishTrouble) (maxL := 6) (ret := (some .int)) (by decide) rfl ?_
  intro p e s m args below meth c s₁ B0 hml hv
  obtain ⟨rfl, hsz, hP, hK, hD0, hN⟩ := hv
  have hx := B0.exec
  have hb := B0.bytes
  have hr := B0.returns
  have hts := atoms_spec (ws := vfX10_wishTrouble) B0.pre
  have hown : s.vm.findClass RX10 = some m.cls := findClass_of_methodNamed B0.named
  have hlocks := B0.notSynchronized
  subst hsz
  have hD := hD0.self (sz := s.heap.size)
  generalize hAe : va_A ((a0, .inr (7, [.ref a5, g8, g9, g10, g11, g12, g13, g14, g15, g16])) :: bX6 a5 up kp p_p []) s.heap.size = A at hD ⊢
  have hA : ∀ q : Nat, s.heap.size ≤ q → A q := fun q h => by rw [← hAe]; exact Or.inr h
  have hS : va_S A s.heap s.heap [] := va_S.rf
  have hP : va_P (dC, dI) vwCl ((a0, .inr (7, [.ref a5, g8, g9, g10, g11, g12, g13, g14, g15, g16])) :: bX6 a5 up kp p_p []) s.heap := hP
  have hl := lv_entry ([.ref a0, .int k1, .int k2, .int k3, .int k4]) (n := 6) (Nat.le_of_ble_eq_true rfl)
  rw [lg_entry_eq]
  generalize (lg_sl ([.ref a0, .int k1, .int k2, .int k3, .int k4]) ++ List.replicate (6 - (lg_sl ([.ref a0, .int k1, .int k2, .int k3, .int k4])).length) Slot.unset).toArray = ls at hl ⊢
  have hl : lv_has ls 6 [(0, .ref a0), (1, .int k1), (2, .int k2), (3, .int k3), (4, .int k4)] := hl
  refine W_q (fun QQ hQQ => ?_)
  rw [f_X10_wishTrouble] at h
  refine lv_aload_n hx hb (zat zrX10_wishTrouble_0_ok 0 rfl) rfl (lv_at hl 0 rfl) ?_
  refine lv_iload_n hx hb (zat zrX10_wishTrouble_0_ok 1 rfl) rfl (lv_at hl 1 rfl) ?_
  obtain ⟨o2, eo2⟩ : ∃ o, o = f_X10_answerTrouble k1 p_p := ⟨_, rfl⟩
  have h := nm_of h o2 eo2
  refine ck_i (wc := ((a0, .inr (7, [.ref a5, g8, g9, g10, g11, g12, g13, g14, g15, g16])) :: bX6 a5 up kp p_p [])) (wr := []) hP hD hK hS hA [0, 1, 2, 3, 4, 5, 6, 7, 8, 9, 10] [] rfl rfl (by decide) (by decide) (by decide) (fun hPc hDc => (va_runV (As := [.int k1]) (rest := []) ⟨hx, hb, hml, hown, hts⟩ (kfX10_answerTrouble l dC dI a0 k1 a5 up kp (g8) (g9) (g10) (g11) (g12) (g13) (g14) (g15) (g16) p_p s.heap.size o2 eo2.symm) (cwV 1 hts gfX10_wishTrouble_0 rfl rfl rfl (by decide +kernel) ⟨(Nat.le_of_ble_eq_true rfl), (Nat.le_of_ble_eq_true rfl)⟩) (PV hPc (hK.sub (tys' := (tX6 kp ([]))) [0, 1, 2, 3, 4, 5, 6, 7, 8] rfl) hDc hN 0 rfl rfl) rfl rfl hl.1 rfl (lv_room (Nat.le_of_ble_eq_true rfl)) (zat zrX10_wishTrouble_0_ok 2 rfl) ⟨(Nat.le_of_ble_eq_true rfl), (Nat.le_of_ble_eq_true rfl)⟩)) (fun r2 _ H locs hw hP hD _ hS => ?_)
  obtain rfl := hw.symm
  obtain ⟨hP, hD⟩ := pd_mk ((a0, .inr (7, [.ref a5, g8, g9, g10, g11, g12, g13, g14, g15, g16])) :: bX6 a5 up kp p_p []) hP hD
  refine lv_istore (lv' := [(5, .int o2), (0, .ref a0), (1, .int k1), (2, .int k2), (3, .int k3), (4, .int k4)]) hx hb (zat zrX10_wishTrouble_0_ok 3 rfl) hl (by decide) rfl (fun ls hl => ?_)
  refine lv_iload hx hb (zat zrX10_wishTrouble_0_ok 4 rfl) (lv_at hl 0 rfl) ?_
  refine lv_if_ne (tgt := 23) hx hb (zat zrX10_wishTrouble_0_ok 5 rfl) (by decide) (fun c9 => ?_) (fun c9 => ?_)
  · have h := (if_neg c9).symm.trans h
    refine lv_iload hx hb (zat zrX10_wishTrouble_0_ok 12 rfl) (lv_at hl 0 rfl) ?_
    obtain rfl := h
    obtain ⟨hP9, hD9⟩ := pd_sub ((a0, .inr (7, [.ref a5, g8, g9, g10, g11, g12, g13, g14, g15, g16])) :: bX6 a5 up kp p_p []) [0, 1, 2, 3, 4, 5, 6, 7, 8, 9, 10] hP hD (by decide) rfl
    have hK9 := hK.sub (tys' := []) [] rfl
    rw [hQQ]
    exact W.iret (v := o2) hx hb hr (fun t ht hW => ⟨⟨o2, (), rfl, rfl, by rw [ht]; exact hP9, va_K.moved hW.alike hK9, hD9⟩, hS.F ht⟩) hS.2.2 (zat zrX10_wishTrouble_0_ok 13 rfl)
  · have h := (if_pos c9).symm.trans h
    refine lv_aload_n hx hb (zat zrX10_wishTrouble_0_ok 6 rfl) rfl (lv_at hl 1 rfl) ?_
    refine lv_iload_n hx hb (zat zrX10_wishTrouble_0_ok 7 rfl) rfl (lv_at hl 3 rfl) ?_
    refine lv_iload_n hx hb (zat zrX10_wishTrouble_0_ok 8 rfl) rfl (lv_at hl 4 rfl) ?_
    refine lv_iload hx hb (zat zrX10_wishTrouble_0_ok 9 rfl) (lv_at hl 5 rfl) ?_
    obtain ⟨o17, eo17⟩ : ∃ o, o = f_X10_questionTrouble k2 k3 k4 p_p := ⟨_, rfl⟩
    have h := nm_of h o17 eo17
    refine ck_i (wc := ((a0, .inr (7, [.ref a5, g8, g9, g10, g11, g12, g13, g14, g15, g16])) :: bX6 a5 up kp p_p [])) (wr := []) hP hD hK hS hA [0, 1, 2, 3, 4, 5, 6, 7, 8, 9, 10] [] rfl rfl (by decide) (by decide) (by decide) (fun hPc hDc => (va_runV (As := [.int k2, .int k3, .int k4]) (rest := []) ⟨hx, hb, hml, hown, hts⟩ (kfX10_questionTrouble l dC dI a0 k2 k3 k4 a5 up kp (g8) (g9) (g10) (g11) (g12) (g13) (g14) (g15) (g16) p_p H.size o17 eo17.symm) (cwV 3 hts gfX10_wishTrouble_1 rfl rfl rfl (by decide +kernel) ⟨(Nat.le_of_ble_eq_true rfl), (Nat.le_of_ble_eq_true rfl)⟩) (PV hPc (hK.sub (tys' := (tX6 kp ([]))) [0, 1, 2, 3, 4, 5, 6, 7, 8] rfl) hDc hN 0 rfl rfl) rfl rfl hl.1 rfl (lv_room (Nat.le_of_ble_eq_true rfl)) (zat zrX10_wishTrouble_0_ok 10 rfl) ⟨(Nat.le_of_ble_eq_true rfl), (Nat.le_of_ble_eq_true rfl)⟩)) (fun r17 _ H locs hw hP hD _ hS => ?_)
    obtain rfl := hw.symm
    obtain ⟨hP, hD⟩ := pd_mk ((a0, .inr (7, [.ref a5, g8, g9, g10, g11, g12, g13, g14, g15, g16])) :: bX6 a5 up kp p_p []) hP hD
    refine lv_goto (tgt := 25) hx hb (zat zrX10_wishTrouble_0_ok 11 rfl) (by decide) ?_
    obtain rfl := h
    obtain ⟨hP9, hD9⟩ := pd_sub ((a0, .inr (7, [.ref a5, g8, g9, g10, g11, g12, g13, g14, g15, g16])) :: bX6 a5 up kp p_p []) [0, 1, 2, 3, 4, 5, 6, 7, 8, 9, 10] hP hD (by decide) rfl
    have hK9 := hK.sub (tys' := []) [] rfl
    rw [hQQ]
    exact W.iret (v := o17) hx hb hr (fun t ht hW => ⟨⟨o17, (), rfl, rfl, by rw [ht]; exact hP9, va_K.moved hW.alike hK9, hD9⟩, hS.F ht⟩) hS.2.2 (zat zrX10_wishTrouble_0_ok 13 rfl)
noncomputable def zrX10_wish_0 : List ZR := zc 0 true (.aload_n 0) 1 (zc 1 true (.aload_n 0) 1 (zc 2 true (.iload_n 1) 1 (zc 3 true (.iload_n 2) 1 (zc 4 true (.iload_n 3) 1 (zc 5 true (.iload 4) 2 (zc 7 true (.invokevirtual 176) 3 (zc 10 true (.invokevirtual 79) 3 (zc 13 true (.ifCond .eq 5) 3 (zc 16 true (.iconst (-1)) 1 (zc 17 true (.ireturn) 1 (zc 18 true (.aload_n 0) 1 (zc 19 true (.getfield 10) 3 (zc 22 true (.iload_n 1) 1 (zc 23 true (.iload_n 2) 1 (zc 24 true (.iload_n 3) 1 (zc 25 true (.iload 4) 2 (zc 27 true (.invokestatic 180) 3 (zc 30 true (.invokevirtual 184) 3 (zc 33 true (.ireturn) 1 ([]))))))))))))))))))))
theorem zrX10_wish_0_ok : zck 0 ((zby cX10_wish).drop 0) zrX10_wish_0 = true := by decide +kernel
def vfX10_wish : List Cond := List.cons (.code yX10_wish cX10_wish 5 (some .int)) (apW [.methodLink RX10 176 yX10_wishTrouble, .instanceMethod yX10_wishTrouble, .selects RX10 yX10_wishTrouble yX10_wishTrouble, .initialized RX10, .methodLink RX10 79 yX10_refused, .instanceMethod yX10_refused, .selects RX10 yX10_refused yX10_refused, .fieldLink RX10 10 "HookPier" "plan" "LHookPier$Plan;", .methodLink RX10 180 yX10_question, .static yX10_question, .methodLink RX10 184 yX6_wishFor, .instanceMethod yX6_wishFor, .selects RX6 yX6_wishFor yX6_wishFor, .initialized RX6] (apW wsX100 (apW vfX10_wishTrouble (apW vfX10_refused (apW vfX10_question (vfX6_wishFor))))))
theorem ifX10_wish_X10 : ∀ w ∈ wsX100, w ∈ vfX10_wish := fun _ h => (List.mem_cons_of_mem _ (List.mem_append_right _ (List.mem_append_left _ h)))
theorem qfX10_wish : Good vfX10_wish := gd_cons (by decide +kernel) (gd_app (gd_dec (by decide +kernel) : Good [.methodLink RX10 176 yX10_wishTrouble, .instanceMethod yX10_wishTrouble, .selects RX10 yX10_wishTrouble yX10_wishTrouble, .initialized RX10, .methodLink RX10 79 yX10_refused, .instanceMethod yX10_refused, .selects RX10 yX10_refused yX10_refused, .fieldLink RX10 10 "HookPier" "plan" "LHookPier$Plan;", .methodLink RX10 180 yX10_question, .static yX10_question, .methodLink RX10 184 yX6_wishFor, .instanceMethod yX6_wishFor, .selects RX6 yX6_wishFor yX6_wishFor, .initialized RX6]) (gd_app qsX10 (gd_app qfX10_wishTrouble (gd_app qfX10_refused (gd_app qfX10_question qfX6_wishFor)))))
theorem gfX10_wish_0 : GoodIn vfX10_wish (wsV RX10 176 RX10 yX10_wishTrouble vfX10_wishTrouble) := goodIn_app (goodIn_r [.methodLink RX10 176 yX10_wishTrouble, .instanceMethod yX10_wishTrouble, .selects RX10 yX10_wishTrouble yX10_wishTrouble, .initialized RX10] [1, 2, 3, 4] rfl (by decide +kernel)) (goodIn_m (fun _ h => (List.mem_cons_of_mem _ (List.mem_append_right _ (List.mem_append_right _ (List.mem_append_left _ h))))) qfX10_wishTrouble)
theorem gfX10_wish_1 : GoodIn vfX10_wish (wsV RX10 79 RX10 yX10_refused vfX10_refused) := goodIn_app (goodIn_r [.methodLink RX10 79 yX10_refused, .instanceMethod yX10_refused, .selects RX10 yX10_refused yX10_refused, .initialized RX10] [5, 6, 7, 4] rfl (by decide +kernel)) (goodIn_m (fun _ h => (List.mem_cons_of_mem _ (List.mem_append_right _ (List.mem_append_right _ (List.mem_append_right _ (List.mem_append_left _ h)))))) qfX10_refused)
theorem gfX10_wish_2 : GoodIn vfX10_wish (va_wsS RX10 180 yX10_question vfX10_question) := goodIn_app (goodIn_r [.methodLink RX10 180 yX10_question, .static yX10_question, .initialized RX10] [9, 10, 4] rfl (by decide +kernel)) (goodIn_m (fun _ h => (List.mem_cons_of_mem _ (List.mem_append_right _ (List.mem_append_right _ (List.mem_append_right _ (List.mem_append_right _ (List.mem_append_left _ h))))))) qfX10_question)
theorem gfX10_wish_3 : GoodIn vfX10_wish (wsV RX10 184 RX6 yX6_wishFor vfX6_wishFor) := goodIn_app (goodIn_r [.methodLink RX10 184 yX6_wishFor, .instanceMethod yX6_wishFor, .selects RX6 yX6_wishFor yX6_wishFor, .initialized RX6] [11, 12, 13, 14] rfl (by decide +kernel)) (goodIn_m (fun _ h => (List.mem_cons_of_mem _ (List.mem_append_right _ (List.mem_append_right _ (List.mem_append_right _ (List.mem_append_right _ (List.mem_append_right _ h))))))) qfX6_wishFor)
set_option maxHeartbeats 2000000 in
set_option maxRecDepth 100000 in
theorem kfX10_wish (l : Launch) (dC : Nat → ClassId) (dI : Nat → Nat → Nat) (a0 : Nat) (k1 : Int32) (k2 : Int32) (k3 : Int32) (k4 : Int32) (a5 : Nat) (up : Nat → Nat) (kp : Nat → ClassId) (x_x : TX10_x) (g9 : Value) (g10 : Value) (g11 : Value) (g12 : Value) (g13 : Value) (g14 : Value) (g15 : Value) (p_p : TX6_p) (sz : Nat) (out : (Int32 × TX10_x)) (h : f_X10_wish k1 k2 k3 k4 x_x p_p = some out) : KCi l yX10_wish vfX10_wish ({ frames := 4, cells := 0, slots := 0, locals := 91 }) (dC, dI) [.ref a0, .int k1, .int k2, .int k3, .int k4] sz ((a0, .inr (7, [.ref a5, g9, g10, g11, g12, g13, g14, g15, .int x_x.1, .int x_x.2])) :: bX6 a5 up kp p_p []) (tX6 kp ([])) (fun (r : Int32) _ => r = out.1) ((a0, .inr (7, [.ref a5, g9, g10, g11, g12, g13, g14, g15, .int out.2.1, .int out.2.2])) :: bX6 a5 up kp p_p []) 0 0 := by
  refine Met.ofW (cc := cX10_wish) (maxL := 5) (ret := (some .int)) (by decide) rfl ?_
  intro p e s m args below meth c s₁ B0 hml hv
  obtain ⟨rfl, hsz, hP, hK, hD0, hN⟩ := hv
  have hx := B0.exec
  have hb := B0.bytes
  have hr := B0.returns
  have hts := atoms_spec (ws := vfX10_wish) B0.pre
  have hown : s.vm.findClass RX10 = some m.cls := findClass_of_methodNamed B0.named
  have hlocks := B0.notSynchronized
  subst hsz
  have hD := hD0.self (sz := s.heap.size)
  generalize hAe : va_A ((a0, .inr (7, [.ref a5, g9, g10, g11, g12, g13, g14, g15, .int x_x.1, .int x_x.2])) :: bX6 a5 up kp p_p []) s.heap.size = A at hD ⊢
  have hA : ∀ q : Nat, s.heap.size ≤ q → A q := fun q h => by rw [← hAe]; exact Or.inr h
  have hS : va_S A s.heap s.heap [] := va_S.rf
  have hP : va_P (dC, dI) vwCl ((a0, .inr (7, [.ref a5, g9, g10, g11, g12, g13, g14, g15, .int x_x.1, .int x_x.2])) :: bX6 a5 up kp p_p []) s.heap := hP
  have hl := lv_entry ([.ref a0, .int k1, .int k2, .int k3, .int k4]) (n := 5) (Nat.le_of_ble_eq_true rfl)
  rw [lg_entry_eq]
  generalize (lg_sl ([.ref a0, .int k1, .int k2, .int k3, .int k4]) ++ List.replicate (5 - (lg_sl ([.ref a0, .int k1, .int k2, .int k3, .int k4])).length) Slot.unset).toArray = ls at hl ⊢
  have hl : lv_has ls 5 [(0, .ref a0), (1, .int k1), (2, .int k2), (3, .int k3), (4, .int k4)] := hl
  refine W_q (fun QQ hQQ => ?_)
  rw [f_X10_wish] at h
  refine lv_aload_n hx hb (zat zrX10_wish_0_ok 0 rfl) rfl (lv_at hl 0 rfl) ?_
  refine lv_aload_n hx hb (zat zrX10_wish_0_ok 1 rfl) rfl (lv_at hl 0 rfl) ?_
  refine lv_iload_n hx hb (zat zrX10_wish_0_ok 2 rfl) rfl (lv_at hl 1 rfl) ?_
  refine lv_iload_n hx hb (zat zrX10_wish_0_ok 3 rfl) rfl (lv_at hl 2 rfl) ?_
  refine lv_iload_n hx hb (zat zrX10_wish_0_ok 4 rfl) rfl (lv_at hl 3 rfl) ?_
  refine lv_iload hx hb (zat zrX10_wish_0_ok 5 rfl) (lv_at hl 4 rfl) ?_
  obtain ⟨o7, eo7⟩ : ∃ o, o = f_X10_wishTrouble k1 k2 k3 k4 p_p := ⟨_, rfl⟩
  have h := nm_of h o7 eo7
  refine ck_i (wc := ((a0, .inr (7, [.ref a5, g9, g10, g11, g12, g13, g14, g15, .int x_x.1, .int x_x.2])) :: bX6 a5 up kp p_p [])) (wr := []) hP hD hK hS hA [0, 1, 2, 3, 4, 5, 6, 7, 8, 9, 10] [] rfl rfl (by decide) (by decide) (by decide) (fun hPc hDc => (va_runV (As := [.int k1, .int k2, .int k3, .int k4]) (rest := [.ref a0]) ⟨hx, hb, hml, hown, hts⟩ (kfX10_wishTrouble l dC dI a0 k1 k2 k3 k4 a5 up kp (g9) (g10) (g11) (g12) (g13) (g14) (g15) (.int x_x.1) (.int x_x.2) p_p s.heap.size o7 eo7.symm) (cwV 4 hts gfX10_wish_0 rfl rfl rfl (by decide +kernel) ⟨(Nat.le_of_ble_eq_true rfl), (Nat.le_of_ble_eq_true rfl)⟩) (PV hPc (hK.sub (tys' := (tX6 kp ([]))) [0, 1, 2, 3, 4, 5, 6, 7, 8] rfl) hDc hN 0 rfl rfl) rfl rfl hl.1 rfl (lv_room (Nat.le_of_ble_eq_true rfl)) (zat zrX10_wish_0_ok 6 rfl) ⟨(Nat.le_of_ble_eq_true rfl), (Nat.le_of_ble_eq_true rfl)⟩)) (fun r7 _ H locs hw hP hD _ hS => ?_)
  obtain rfl := hw.symm
  obtain ⟨hP, hD⟩ := pd_mk ((a0, .inr (7, [.ref a5, g9, g10, g11, g12, g13, g14, g15, .int x_x.1, .int x_x.2])) :: bX6 a5 up kp p_p []) hP hD
  obtain ⟨o10, eo10⟩ : ∃ o, o = f_X10_refused o7 x_x := ⟨_, rfl⟩
  have h := nm_of h o10 eo10
  refine ck_i (wc := ([(a0, .inr (7, [.ref a5, g9, g10, g11, g12, g13, g14, g15, .int x_x.1, .int x_x.2]))])) (wr := (bX6 a5 up kp p_p [])) hP hD hK hS hA [0] [1, 2, 3, 4, 5, 6, 7, 8, 9, 10] rfl rfl (by decide) (by decide) (by decide) (fun hPc hDc => (va_runV (As := [.int o7]) (rest := []) ⟨hx, hb, hml, hown, hts⟩ (kfX10_refused l dC dI a0 o7 x_x (.ref a5) (g9) (g10) (g11) (g12) (g13) (g14) (g15) H.size o10 eo10.symm) (cwV 1 hts gfX10_wish_1 rfl rfl rfl (by decide +kernel) ⟨(Nat.le_of_ble_eq_true rfl), (Nat.le_of_ble_eq_true rfl)⟩) (PV hPc (hK.sub (tys' := ([])) [] rfl) hDc hN 0 rfl rfl) rfl rfl hl.1 rfl (lv_room (Nat.le_of_ble_eq_true rfl)) (zat zrX10_wish_0_ok 7 rfl) ⟨(Nat.le_of_ble_eq_true rfl), (Nat.le_of_ble_eq_true rfl)⟩)) (fun r10 _ H locs hw hP hD _ hS => ?_)
  obtain ⟨hw, br10⟩ := hw
  obtain rfl := hw
  obtain ⟨hP, hD⟩ := pd_mk (bX6 a5 up kp p_p ([(a0, .inr (7, [.ref a5, g9, g10, g11, g12, g13, g14, g15, .int o10.2.1, .int o10.2.2]))])) hP hD
  refine lv_if_eq (tgt := 18) hx hb (zat zrX10_wish_0_ok 8 rfl) (by decide) (fun c13 => ?_) (fun c13 => ?_)
  · have h := (if_pos c13).symm.trans h
    refine lv_aload_n hx hb (zat zrX10_wish_0_ok 11 rfl) rfl (lv_at hl 0 rfl) ?_
    refine va_get (D := (dC, dI)) (ci := 7) (v := .ref a5) (C := RX10) (T := TX10) (N := 10) hx hb hts ifX10_wish_X10 hown hK hP 10 rfl rfl 0 (by decide) (hts (.fieldLink RX10 10 "HookPier" "plan" "LHookPier$Plan;") (List.mem_of_getElem? (i := 8) rfl)) (fun _ h9 => h9) rfl (zat zrX10_wish_0_ok 12 rfl) ?_
    refine lv_iload_n hx hb (zat zrX10_wish_0_ok 13 rfl) rfl (lv_at hl 1 rfl) ?_
    refine lv_iload_n hx hb (zat zrX10_wish_0_ok 14 rfl) rfl (lv_at hl 2 rfl) ?_
    refine lv_iload_n hx hb (zat zrX10_wish_0_ok 15 rfl) rfl (lv_at hl 3 rfl) ?_
    refine lv_iload hx hb (zat zrX10_wish_0_ok 16 rfl) (lv_at hl 4 rfl) ?_
    obtain ⟨o27, eo27⟩ : ∃ o, o = f_X10_question k2 k3 k4 := ⟨_, rfl⟩
    have h := nm_of h o27 eo27
    refine ck_i (wc := []) (wr := (bX6 a5 up kp p_p ([(a0, .inr (7, [.ref a5, g9, g10, g11, g12, g13, g14, g15, .int o10.2.1, .int o10.2.2]))]))) hP hD hK hS hA [] [0, 1, 2, 3, 4, 5, 6, 7, 8, 9, 10] rfl rfl (by decide) (by decide) (by decide) (fun hPc hDc => (va_runS (As := [.int k2, .int k3, .int k4]) (rest := [.int k1, .ref a5]) ⟨hx, hb, hml, hown, hts⟩ (kfX10_question l dC dI k2 k3 k4 H.size o27 eo27.symm) (va_cwS 3 hts gfX10_wish_2 rfl rfl rfl (by decide +kernel) ⟨(Nat.le_of_ble_eq_true rfl), (Nat.le_of_ble_eq_true rfl)⟩) (PS hPc (hK.sub (tys' := ([])) [] rfl) hDc hN) rfl rfl hl.1 rfl (lv_room (Nat.le_of_ble_eq_true rfl)) (zat zrX10_wish_0_ok 17 rfl) ⟨(Nat.le_of_ble_eq_true rfl), (Nat.le_of_ble_eq_true rfl)⟩)) (fun r27 _ H locs hw hP hD _ hS => ?_)
    obtain rfl := hw.symm
    obtain ⟨hP, hD⟩ := pd_mk (bX6 a5 up kp p_p ([(a0, .inr (7, [.ref a5, g9, g10, g11, g12, g13, g14, g15, .int o10.2.1, .int o10.2.2]))])) hP hD
    obtain ⟨o30, eo30, h⟩ := bd_of h
    refine ck_i (wc := (bX6 a5 up kp p_p [])) (wr := ([(a0, .inr (7, [.ref a5, g9, g10, g11, g12, g13, g14, g15, .int o10.2.1, .int o10.2.2]))])) hP hD hK hS hA [0, 1, 2, 3, 4, 5, 6, 7, 8, 9] [10] rfl rfl (by decide) (by decide) (by decide) (fun hPc hDc => (va_runV (As := [.int k1, .int o27]) (rest := []) ⟨hx, hb, hml, hown, hts⟩ (kfX6_wishFor l dC dI a5 k1 o27 up kp p_p H.size o30 eo30) (cwV 2 hts gfX10_wish_3 rfl rfl rfl (by decide +kernel) ⟨(Nat.le_of_ble_eq_true rfl), (Nat.le_of_ble_eq_true rfl)⟩) (PV hPc (hK.sub (tys' := (tX6 kp ([]))) [0, 1, 2, 3, 4, 5, 6, 7, 8] rfl) hDc hN 0 rfl rfl) rfl rfl hl.1 rfl (lv_room (Nat.le_of_ble_eq_true rfl)) (zat zrX10_wish_0_ok 18 rfl) ⟨(Nat.le_of_ble_eq_true rfl), (Nat.le_of_ble_eq_true rfl)⟩)) (fun r30 _ H locs hw hP hD _ hS => ?_)
    obtain rfl := hw.symm
    obtain ⟨hP, hD⟩ := pd_mk ((a0, .inr (7, [.ref a5, g9, g10, g11, g12, g13, g14, g15, .int o10.2.1, .int o10.2.2])) :: bX6 a5 up kp p_p []) hP hD
    obtain rfl := Option.some.inj h
    obtain ⟨hP9, hD9⟩ := pd_sub ((a0, .inr (7, [.ref a5, g9, g10, g11, g12, g13, g14, g15, .int o10.2.1, .int o10.2.2])) :: bX6 a5 up kp p_p []) [0, 1, 2, 3, 4, 5, 6, 7, 8, 9, 10] hP hD (by decide) rfl
    have hK9 := hK.sub (tys' := []) [] rfl
    rw [hQQ]
    exact W.iret (v := o30) hx hb hr (fun t ht hW => ⟨⟨o30, (), rfl, rfl, by rw [ht]; exact hP9, va_K.moved hW.alike hK9, hD9⟩, hS.F ht⟩) hS.2.2 (zat zrX10_wish_0_ok 19 rfl)
  · have h := (if_neg c13).symm.trans h
    refine lv_iconst (v := (-1)) hx hb (zat zrX10_wish_0_ok 9 rfl) (by decide) ?_
    obtain rfl := Option.some.inj h
    obtain ⟨hP9, hD9⟩ := pd_sub ((a0, .inr (7, [.ref a5, g9, g10, g11, g12, g13, g14, g15, .int o10.2.1, .int o10.2.2])) :: bX6 a5 up kp p_p []) [10, 0, 1, 2, 3, 4, 5, 6, 7, 8, 9] hP hD (by decide) rfl
    have hK9 := hK.sub (tys' := []) [] rfl
    rw [hQQ]
    exact W.iret (v := (-1 : Int32)) hx hb hr (fun t ht hW => ⟨⟨(-1 : Int32), (), rfl, rfl, by rw [ht]; exact hP9, va_K.moved hW.alike hK9, hD9⟩, hS.F ht⟩) hS.2.2 (zat zrX10_wish_0_ok 10 rfl)
noncomputable def zrX5_chance_0 : List ZR := zc 0 true (.ldc2_w 9) 3 (zc 3 true (.lstore 4) 2 (zc 5 true (.iconst 0) 1 (zc 6 true (.istore 6) 2 (zc 8 true (.iload 6) 2 (zc 10 true (.aload_n 0) 1 (zc 11 true (.getfield 11) 3 (zc 14 true (.if_icmp .ge 52) 3 (zc 17 true (.aload_n 1) 1 (zc 18 true (.getfield 17) 3 (zc 21 true (.iload 6) 2 (zc 23 true (.iaload) 1 (zc 24 true (.ifCond .ne 36) 3 (zc 27 true (.lload 4) 2 (zc 29 true (.ldc2_w 23) 3 (zc 32 true (.ldiv) 1 (zc 33 true (.aload_n 0) 1 (zc 34 true (.iload 6) 2 (zc 36 true (.iload_n 3) 1 (zc 37 true (.invokevirtual 25) 3 (zc 40 true (.i2l) 1 (zc 41 true (.lmul) 1 (zc 42 true (.lstore 7) 2 (zc 44 true (.iload 6) 2 (zc 46 true (.iload_n 2) 1 (zc 47 true (.if_icmp .ne 6) 3 (zc 50 true (.lload 7) 2 (zc 52 true (.lreturn) 1 (zc 53 true (.lload 4) 2 (zc 55 true (.lload 7) 2 (zc 57 true (.lsub) 1 (zc 58 true (.lstore 4) 2 (zc 60 true (.iinc 6 1) 3 (zc 63 true (.goto (-55)) 3 (zc 66 true (.iload_n 2) 1 (zc 67 true (.iconst (-1)) 1 (zc 68 true (.if_icmp .ne 8) 3 (zc 71 true (.lload 4) 2 (zc 73 true (.goto 4) 3 (zc 76 true (.lconst 0) 1 (zc 77 true (.lreturn) 1 ([])))))))))))))))))))))))))))))))))))))))))
theorem zrX5_chance_0_ok : zck 0 ((zby cX5_chance).drop 0) zrX5_chance_0 = true := by decide +kernel
def vfX5_chance : List Cond := List.cons (.code yX5_chance cX5_chance 9 (some .long)) (apW [.constantLong RX5 9 (1000000000000), .fieldLink RX5 11 "HookPier$Plan" "answers" "I", .fieldLink RX5 17 "HookPier$Now" "stage" "[I", .constantLong RX5 23 (100), .methodLink RX5 25 yX6_wishFor, .instanceMethod yX6_wishFor, .selects RX6 yX6_wishFor yX6_wishFor, .initialized RX6] (apW wsX60 (apW wsX40 (vfX6_wishFor))))
theorem ifX5_chance_X6 : ∀ w ∈ wsX60, w ∈ vfX5_chance := fun _ h => (List.mem_cons_of_mem _ (List.mem_append_right _ (List.mem_append_left _ h)))
theorem ifX5_chance_X4 : ∀ w ∈ wsX40, w ∈ vfX5_chance := fun _ h => (List.mem_cons_of_mem _ (List.mem_append_right _ (List.mem_append_right _ (List.mem_append_left _ h))))
theorem qfX5_chance : Good vfX5_chance := gd_cons (by decide +kernel) (gd_app (gd_dec (by decide +kernel) : Good [.constantLong RX5 9 (1000000000000), .fieldLink RX5 11 "HookPier$Plan" "answers" "I", .fieldLink RX5 17 "HookPier$Now" "stage" "[I", .constantLong RX5 23 (100), .methodLink RX5 25 yX6_wishFor, .instanceMethod yX6_wishFor, .selects RX6 yX6_wishFor yX6_wishFor, .initialized RX6]) (gd_app qsX6 (gd_app qsX4 qfX6_wishFor)))
theorem gfX5_chance_0 : GoodIn vfX5_chance (wsV RX5 25 RX6 yX6_wishFor vfX6_wishFor) := goodIn_app (goodIn_r [.methodLink RX5 25 yX6_wishFor, .instanceMethod yX6_wishFor, .selects RX6 yX6_wishFor yX6_wishFor, .initialized RX6] [5, 6, 7, 8] rfl (by decide +kernel)) (goodIn_m (fun _ h => (List.mem_cons_of_mem _ (List.mem_append_right _ (List.mem_append_right _ (List.mem_append_right _ h))))) qfX6_wishFor)
set_option maxHeartbeats 2000000 in
set_option maxRecDepth 100000 in
theorem kfX5_chance (l : Launch) (dC : Nat → ClassId) (dI : Nat → Nat → Nat) (a0 : Nat) (a1 : Nat) (k2 : Int32) (k3 : Int32) (up : Nat → Nat) (kp : Nat → ClassId) (un : Nat → Nat) (kn : Nat → ClassId) (p_p : TX6_p) (n_n : TX4_n) (sz : Nat) (out : Int64) (h : f_X5_chance k2 k3 p_p n_n = some out) : KDl l yX5_chance vfX5_chance ({ frames := 3, cells := 0, slots := 0, locals := 67 }) (dC, dI) [.ref a0, .ref a1, .int k2, .int k3] sz (bX6 a0 up kp p_p (bX4 a1 un kn n_n [])) (tX6 kp (tX4 kn ([]))) (fun (r : Int64) _ => r = out) 0 0 := by
  refine Met.ofW (cc := cX5_chance) (maxL := 9) (ret := (some .long)) (by decide) rfl ?_
  intro p e s m args below meth c s₁ B0 hml hv
  obtain ⟨rfl, hsz, hP, hK, hD0, hN⟩ := hv
  have hx := B0.exec
  have hb := B0.bytes
  have hr := B0.returns
  have hts := atoms_spec (ws := vfX5_chance) B0.pre
  have hown : s.vm.findClass RX5 = some m.cls := findClass_of_methodNamed B0.named
  have hlocks := B0.notSynchronized
  subst hsz
  have hD := hD0.self (sz := s.heap.size)
  generalize hAe : va_A (bX6 a0 up kp p_p (bX4 a1 un kn n_n [])) s.heap.size = A at hD ⊢
  have hA : ∀ q : Nat, s.heap.size ≤ q → A q := fun q h => by rw [← hAe]; exact Or.inr h
  have hS : va_S A s.heap s.heap [] := va_S.rf
  have hP : va_P (dC, dI) vwCl (bX6 a0 up kp p_p (bX4 a1 un kn n_n [])) s.heap := hP
  have hl := lv_entry ([.ref a0, .ref a1, .int k2, .int k3]) (n := 9) (Nat.le_of_ble_eq_true rfl)
  rw [lg_entry_eq]
  generalize (lg_sl ([.ref a0, .ref a1, .int k2, .int k3]) ++ List.replicate (9 - (lg_sl ([.ref a0, .ref a1, .int k2, .int k3])).length) Slot.unset).toArray = ls at hl ⊢
  have hl : lv_has ls 9 [(0, .ref a0), (1, .ref a1), (2, .int k2), (3, .int k3)] := hl
  refine W_q (fun QQ hQQ => ?_)
  rw [f_X5_chance] at h
  refine lv_ldc2 hx hb hown (hts (.constantLong RX5 9 (1000000000000)) (List.mem_of_getElem? (i := 1) rfl)) (zat zrX5_chance_0_ok 0 rfl) ?_
  refine lv_lstore (lv' := [(4, .long 1000000000000), (0, .ref a0), (1, .ref a1), (2, .int k2), (3, .int k3)]) hx hb (zat zrX5_chance_0_ok 1 rfl) hl (by decide) rfl (fun ls hl => ?_)
  refine lv_iconst (v := 0) hx hb (zat zrX5_chance_0_ok 2 rfl) (by decide) ?_
  refine lv_istore (lv' := [(6, .int 0), (4, .long 1000000000000), (0, .ref a0), (1, .ref a1), (2, .int k2), (3, .int k3)]) hx hb (zat zrX5_chance_0_ok 3 rfl) hl (by decide) rfl (fun ls hl => ?_)
  have L8 : ∀ (n8 : Nat) (v8_l6 : Int32) (v8_l4 : Int64) (H : Heap) (locs : List Loc) (ls : Array Slot), f_X5_chance_L8 k2 k3 p_p n_n n8 v8_l6 v8_l4 = some out → va_P (dC, dI) vwCl (bX6 a0 up kp p_p (bX4 a1 un kn n_n [])) H → va_D A (bX6 a0 up kp p_p (bX4 a1 un kn n_n [])) → va_S A s.heap H locs → lv_has ls 9 [(6, .int v8_l6), (4, .long v8_l4), (0, .ref a0), (1, .ref a1), (2, .int k2), (3, .int k3)] → W p l e (headSpec vfX5_chance { frames := 3, cells := 0, slots := 0, locals := 67 }).room s m ([.ref a0, .ref a1, .int k2, .int k3]).toArray below meth c H locs 0 0 QQ (F0 m 8 ls []) := by
    intro n8
    induction n8 with
    | zero =>
      intro v8_l6 v8_l4 H locs ls h  _ _ _ _
      rw [f_X5_chance_L8] at h
      cases h
    | succ n8 ih8 =>
      intro v8_l6 v8_l4 H locs ls h  hP hD hS hl
      rw [f_X5_chance_L8] at h
      refine lv_iload hx hb (zat zrX5_chance_0_ok 4 rfl) (lv_at hl 0 rfl) ?_
      refine lv_aload_n hx hb (zat zrX5_chance_0_ok 5 rfl) rfl (lv_at hl 2 rfl) ?_
      refine va_get (D := (dC, dI)) (ci := 4) (v := .int p_p.2.2.2.2.2.2.1) (C := RX6) (T := TX6) (N := 18) hx hb hts ifX5_chance_X6 hown hK hP 0 rfl rfl 6 (by decide) (hts (.fieldLink RX5 11 "HookPier$Plan" "answers" "I") (List.mem_of_getElem? (i := 2) rfl)) (fun _ h9 => h9) rfl (zat zrX5_chance_0_ok 6 rfl) ?_
      refine lv_icmp_ge (tgt := 66) hx hb (zat zrX5_chance_0_ok 7 rfl) (by decide) (fun c14 => ?_) (fun c14 => ?_)
      · have h := (if_pos c14).symm.trans h
        refine lv_iload_n hx hb (zat zrX5_chance_0_ok 34 rfl) rfl (lv_at hl 4 rfl) ?_
        refine lv_iconst (v := (-1)) hx hb (zat zrX5_chance_0_ok 35 rfl) (by decide) ?_
        refine lv_icmp_ne (tgt := 76) hx hb (zat zrX5_chance_0_ok 36 rfl) (by decide) (fun c68 => ?_) (fun c68 => ?_)
        · have h := (if_neg c68).symm.trans h
          refine lv_lconst (v := 0) hx hb (zat zrX5_chance_0_ok 39 rfl) (by decide) ?_
          obtain rfl := Option.some.inj h
          obtain ⟨hP9, hD9⟩ := pd_sub (bX6 a0 up kp p_p (bX4 a1 un kn n_n [])) [0, 1, 2, 3, 4, 5, 6, 7, 8, 9, 10, 11, 12, 13, 14] hP hD (by decide) rfl
          have hK9 := hK.sub (tys' := []) [] rfl
          rw [hQQ]
          exact W.lret (v := (0 : Int64)) hx hb hr (fun t ht hW => ⟨⟨(0 : Int64), (), rfl, rfl, by rw [ht]; exact hP9, va_K.moved hW.alike hK9, hD9⟩, hS.F ht⟩) hS.2.2 (zat zrX5_chance_0_ok 40 rfl)
        · have h := (if_pos c68).symm.trans h
          refine lv_lload hx hb (zat zrX5_chance_0_ok 37 rfl) (lv_at hl 1 rfl) ?_
          refine lv_goto (tgt := 77) hx hb (zat zrX5_chance_0_ok 38 rfl) (by decide) ?_
          obtain rfl := Option.some.inj h
          obtain ⟨hP9, hD9⟩ := pd_sub (bX6 a0 up kp p_p (bX4 a1 un kn n_n [])) [0, 1, 2, 3, 4, 5, 6, 7, 8, 9, 10, 11, 12, 13, 14] hP hD (by decide) rfl
          have hK9 := hK.sub (tys' := []) [] rfl
          rw [hQQ]
          exact W.lret (v := v8_l4) hx hb hr (fun t ht hW => ⟨⟨v8_l4, (), rfl, rfl, by rw [ht]; exact hP9, va_K.moved hW.alike hK9, hD9⟩, hS.F ht⟩) hS.2.2 (zat zrX5_chance_0_ok 40 rfl)
      · have h := (if_neg c14).symm.trans h
        refine lv_aload_n hx hb (zat zrX5_chance_0_ok 8 rfl) rfl (lv_at hl 3 rfl) ?_
        refine va_get (D := (dC, dI)) (ci := 3) (v := .ref (un 0)) (C := RX4) (T := TX4) (N := 7) hx hb hts ifX5_chance_X4 hown hK hP 10 rfl rfl 3 (by decide) (hts (.fieldLink RX5 17 "HookPier$Now" "stage" "[I") (List.mem_of_getElem? (i := 3) rfl)) (fun _ h9 => h9) rfl (zat zrX5_chance_0_ok 9 rfl) ?_
        refine lv_iload hx hb (zat zrX5_chance_0_ok 10 rfl) (lv_at hl 0 rfl) ?_
        obtain ⟨hg23, h⟩ := gA_of h
        refine va_iald hx hb hK hP 11 9 rfl rfl hg23 (zat zrX5_chance_0_ok 11 rfl) ?_
        have J60 : ∀ (v60_l4 : Int64) (H : Heap) (locs : List Loc) (ls : Array Slot), f_X5_chance_J60 (f_X5_chance_L8 k2 k3 p_p n_n n8) v8_l6 v60_l4 = some out → va_P (dC, dI) vwCl (bX6 a0 up kp p_p (bX4 a1 un kn n_n [])) H → va_D A (bX6 a0 up kp p_p (bX4 a1 un kn n_n [])) → va_S A s.heap H locs → lv_has ls 9 [(6, .int v8_l6), (4, .long v60_l4), (0, .ref a0), (1, .ref a1), (2, .int k2), (3, .int k3)] → W p l e (headSpec vfX5_chance { frames := 3, cells := 0, slots := 0, locals := 67 }).room s m ([.ref a0, .ref a1, .int k2, .int k3]).toArray below meth c H locs 0 0 QQ (F0 m 60 ls []) := by
          intro v60_l4 H locs ls h  hP hD hS hl
          rw [f_X5_chance_J60] at h
          refine lv_iinc (v := (v8_l6 + (1 : Int32))) (lv' := [(6, .int (v8_l6 + (1 : Int32))), (4, .long v60_l4), (0, .ref a0), (1, .ref a1), (2, .int k2), (3, .int k3)]) hx hb (zat zrX5_chance_0_ok 32 rfl) hl (k := 0) rfl rfl (by decide) rfl (fun ls hl => ?_)
          refine lv_goto (tgt := 8) hx hb (zat zrX5_chance_0_ok 33 rfl) (by decide) ?_
          exact ih8 (v8_l6 + (1 : Int32)) v60_l4 H _ ls h  hP hD hS (lv_sub hl [0, 1, 2, 3, 4, 5] rfl)
        refine lv_if_ne (tgt := 60) hx hb (zat zrX5_chance_0_ok 12 rfl) (by decide) (fun c24 => ?_) (fun c24 => ?_)
        · have h := (if_neg c24).symm.trans h
          exact J60 v8_l4 H _ ls h  hP hD hS (lv_sub hl [0, 1, 2, 3, 4, 5] rfl)
        · have h := (if_pos c24).symm.trans h
          refine lv_lload hx hb (zat zrX5_chance_0_ok 13 rfl) (lv_at hl 1 rfl) ?_
          refine lv_ldc2 hx hb hown (hts (.constantLong RX5 23 (100)) (List.mem_of_getElem? (i := 4) rfl)) (zat zrX5_chance_0_ok 14 rfl) ?_
          refine lv_ldiv hx hb (zat zrX5_chance_0_ok 15 rfl) (by decide) ?_
          refine lv_aload_n hx hb (zat zrX5_chance_0_ok 16 rfl) rfl (lv_at hl 2 rfl) ?_
          refine lv_iload hx hb (zat zrX5_chance_0_ok 17 rfl) (lv_at hl 0 rfl) ?_
          refine lv_iload_n hx hb (zat zrX5_chance_0_ok 18 rfl) rfl (lv_at hl 5 rfl) ?_
          obtain ⟨o37, eo37, h⟩ := bd_of h
          refine ck_i (wc := (bX6 a0 up kp p_p [])) (wr := (bX4 a1 un kn n_n [])) hP hD hK hS hA [0, 1, 2, 3, 4, 5, 6, 7, 8, 9] [10, 11, 12, 13, 14] rfl rfl (by decide) (by decide) (by decide) (fun hPc hDc => (va_runV (As := [.int v8_l6, .int k3]) (rest := [.long (v8_l4 / (100 : Int64))]) ⟨hx, hb, hml, hown, hts⟩ (kfX6_wishFor l dC dI a0 v8_l6 k3 up kp p_p H.size o37 eo37) (cwV 2 hts gfX5_chance_0 rfl rfl rfl (by decide +kernel) ⟨(Nat.le_of_ble_eq_true rfl), (Nat.le_of_ble_eq_true rfl)⟩) (PV hPc (hK.sub (tys' := (tX6 kp ([]))) [0, 1, 2, 3, 4, 5, 6, 7, 8] rfl) hDc hN 0 rfl rfl) rfl rfl hl.1 rfl (lv_room (Nat.le_of_ble_eq_true rfl)) (zat zrX5_chance_0_ok 19 rfl) ⟨(Nat.le_of_ble_eq_true rfl), (Nat.le_of_ble_eq_true rfl)⟩)) (fun r37 _ H locs hw hP hD _ hS => ?_)
          obtain rfl := hw.symm
          obtain ⟨hP, hD⟩ := pd_mk (bX4 a1 un kn n_n (bX6 a0 up kp p_p [])) hP hD
          refine lv_i2l hx hb (zat zrX5_chance_0_ok 20 rfl) rfl ?_
          refine lv_lmul hx hb (zat zrX5_chance_0_ok 21 rfl) ?_
          refine lv_lstore (lv' := [(7, .long ((v8_l4 / (100 : Int64)) * (o37).toInt64)), (6, .int v8_l6), (4, .long v8_l4), (0, .ref a0), (1, .ref a1), (2, .int k2), (3, .int k3)]) hx hb (zat zrX5_chance_0_ok 22 rfl) hl (by decide) rfl (fun ls hl => ?_)
          refine lv_iload hx hb (zat zrX5_chance_0_ok 23 rfl) (lv_at hl 1 rfl) ?_
          refine lv_iload_n hx hb (zat zrX5_chance_0_ok 24 rfl) rfl (lv_at hl 5 rfl) ?_
          refine lv_icmp_ne (tgt := 53) hx hb (zat zrX5_chance_0_ok 25 rfl) (by decide) (fun c47 => ?_) (fun c47 => ?_)
          · have h := (if_neg c47).symm.trans h
            refine lv_lload hx hb (zat zrX5_chance_0_ok 28 rfl) (lv_at hl 2 rfl) ?_
            refine lv_lload hx hb (zat zrX5_chance_0_ok 29 rfl) (lv_at hl 0 rfl) ?_
            refine lv_lsub hx hb (zat zrX5_chance_0_ok 30 rfl) ?_
            refine lv_lstore (lv' := [(4, .long (v8_l4 - ((v8_l4 / (100 : Int64)) * (o37).toInt64))), (7, .long ((v8_l4 / (100 : Int64)) * (o37).toInt64)), (6, .int v8_l6), (0, .ref a0), (1, .ref a1), (2, .int k2), (3, .int k3)]) hx hb (zat zrX5_chance_0_ok 31 rfl) hl (by decide) rfl (fun ls hl => ?_)
            exact J60 (v8_l4 - ((v8_l4 / (100 : Int64)) * (o37).toInt64)) H _ ls h  (hP.sub (ws' := (bX6 a0 up kp p_p (bX4 a1 un kn n_n []))) [5, 6, 7, 8, 9, 10, 11, 12, 13, 14, 0, 1, 2, 3, 4] rfl) (hD.sub (ws' := (bX6 a0 up kp p_p (bX4 a1 un kn n_n []))) [5, 6, 7, 8, 9, 10, 11, 12, 13, 14, 0, 1, 2, 3, 4] (by decide) rfl) hS (lv_sub hl [2, 0, 3, 4, 5, 6] rfl)
          · have h := (if_pos c47).symm.trans h
            refine lv_lload hx hb (zat zrX5_chance_0_ok 26 rfl) (lv_at hl 0 rfl) ?_
            obtain rfl := Option.some.inj h
            obtain ⟨hP9, hD9⟩ := pd_sub (bX6 a0 up kp p_p (bX4 a1 un kn n_n [])) [5, 6, 7, 8, 9, 10, 11, 12, 13, 14, 0, 1, 2, 3, 4] hP hD (by decide) rfl
            have hK9 := hK.sub (tys' := []) [] rfl
            rw [hQQ]
            exact W.lret (v := ((v8_l4 / (100 : Int64)) * (o37).toInt64)) hx hb hr (fun t ht hW => ⟨⟨((v8_l4 / (100 : Int64)) * (o37).toInt64), (), rfl, rfl, by rw [ht]; exact hP9, va_K.moved hW.alike hK9, hD9⟩, hS.F ht⟩) hS.2.2 (zat zrX5_chance_0_ok 27 rfl)
  exact L8 FU (0 : Int32) (1000000000000 : Int64) s.heap _ ls h  hP hD hS (lv_sub hl [0, 1, 2, 3, 4, 5] rfl)
noncomputable def zrX5_commonPart_0 : List ZR := zc 0 true (.lload_n 0) 1 (zc 1 true (.lstore 4) 2 (zc 3 true (.lload_n 2) 1 (zc 4 true (.lstore 6) 2 (zc 6 true (.iconst 0) 1 (zc 7 true (.istore 8) 2 (zc 9 true (.iload 8) 2 (zc 11 true (.sipush 1000) 3 (zc 14 true (.if_icmp .ge 31) 3 (zc 17 true (.lload 6) 2 (zc 19 true (.lconst 0) 1 (zc 20 true (.lcmp) 1 (zc 21 true (.ifCond .eq 24) 3 (zc 24 true (.lload 4) 2 (zc 26 true (.lload 6) 2 (zc 28 true (.lrem) 1 (zc 29 true (.lstore 9) 2 (zc 31 true (.lload 6) 2 (zc 33 true (.lstore 4) 2 (zc 35 true (.lload 9) 2 (zc 37 true (.lstore 6) 2 (zc 39 true (.iinc 8 1) 3 (zc 42 true (.goto (-33)) 3 (zc 45 true (.lload 4) 2 (zc 47 true (.lreturn) 1 ([])))))))))))))))))))))))))
theorem zrX5_commonPart_0_ok : zck 0 ((zby cX5_commonPart).drop 0) zrX5_commonPart_0 = true := by decide +kernel
def vfX5_commonPart : List Cond := .code yX5_commonPart cX5_commonPart 11 (some .long) :: ([])
theorem qfX5_commonPart : Good vfX5_commonPart := gd_cons (by decide +kernel) (gd_dec (by decide +kernel) : Good [])
set_option maxHeartbeats 2000000 in
set_option maxRecDepth 100000 in
theorem kfX5_commonPart (l : Launch) (dC : Nat → ClassId) (dI : Nat → Nat → Nat) (k0 : Int64) (k1 : Int64) (sz : Nat) (out : Int64) (h : f_X5_commonPart k0 k1 = some out) : KDl l yX5_commonPart vfX5_commonPart ({ frames := 0, cells := 0, slots := 0, locals := 0 }) (dC, dI) [.long k0, .long k1] sz [] ([]) (fun (r : Int64) _ => r = out) 0 0 := by
  refine Met.ofW (cc := cX5_commonPart) (maxL := 11) (ret := (some .long)) (by decide) rfl ?_
  intro p e s m args below meth c s₁ B0 hml hv
  obtain ⟨rfl, hsz, hP, hK, hD0, hN⟩ := hv
  have hx := B0.exec
  have hb := B0.bytes
  have hr := B0.returns
  have hts := atoms_spec (ws := vfX5_commonPart) B0.pre
  have hown : s.vm.findClass RX5 = some m.cls := findClass_of_methodNamed B0.named
  have hlocks := B0.notSynchronized
  subst hsz
  have hD := hD0.self (sz := s.heap.size)
  generalize hAe : va_A [] s.heap.size = A at hD ⊢
  have hA : ∀ q : Nat, s.heap.size ≤ q → A q := fun q h => by rw [← hAe]; exact Or.inr h
  have hS : va_S A s.heap s.heap [] := va_S.rf
  have hP : va_P (dC, dI) vwCl [] s.heap := hP
  have hl := lv_entry ([.long k0, .long k1]) (n := 11) (Nat.le_of_ble_eq_true rfl)
  rw [lg_entry_eq]
  generalize (lg_sl ([.long k0, .long k1]) ++ List.replicate (11 - (lg_sl ([.long k0, .long k1])).length) Slot.unset).toArray = ls at hl ⊢
  have hl : lv_has ls 11 [(0, .long k0), (2, .long k1)] := hl
  refine W_q (fun QQ hQQ => ?_)
  rw [f_X5_commonPart] at h
  refine lv_lload_n hx hb (zat zrX5_commonPart_0_ok 0 rfl) rfl (lv_at hl 0 rfl) ?_
  refine lv_lstore (lv' := [(4, .long k0), (0, .long k0), (2, .long k1)]) hx hb (zat zrX5_commonPart_0_ok 1 rfl) hl (by decide) rfl (fun ls hl => ?_)
  refine lv_lload_n hx hb (zat zrX5_commonPart_0_ok 2 rfl) rfl (lv_at hl 2 rfl) ?_
  refine lv_lstore (lv' := [(6, .long k1), (4, .long k0), (0, .long k0), (2, .long k1)]) hx hb (zat zrX5_commonPart_0_ok 3 rfl) hl (by decide) rfl (fun ls hl => ?_)
  refine lv_iconst (v := 0) hx hb (zat zrX5_commonPart_0_ok 4 rfl) (by decide) ?_
  refine lv_istore (lv' := [(8, .int 0), (6, .long k1), (4, .long k0), (0, .long k0), (2, .long k1)]) hx hb (zat zrX5_commonPart_0_ok 5 rfl) hl (by decide) rfl (fun ls hl => ?_)
  have L9 : ∀ (n9 : Nat) (v9_l8 : Int32) (v9_l6 : Int64) (v9_l4 : Int64) (H : Heap) (locs : List Loc) (ls : Array Slot), f_X5_commonPart_L9 n9 v9_l8 v9_l6 v9_l4 = some out → va_P (dC, dI) vwCl [] H → va_D A [] → va_S A s.heap H locs → lv_has ls 11 [(8, .int v9_l8), (6, .long v9_l6), (4, .long v9_l4)] → W p l e (headSpec vfX5_commonPart { frames := 0, cells := 0, slots := 0, locals := 0 }).room s m ([.long k0, .long k1]).toArray below meth c H locs 0 0 QQ (F0 m 9 ls []) := by
    intro n9
    induction n9 with
    | zero =>
      intro v9_l8 v9_l6 v9_l4 H locs ls h  _ _ _ _
      rw [f_X5_commonPart_L9] at h
      cases h
    | succ n9 ih9 =>
      intro v9_l8 v9_l6 v9_l4 H locs ls h  hP hD hS hl
      rw [f_X5_commonPart_L9] at h
      refine lv_iload hx hb (zat zrX5_commonPart_0_ok 6 rfl) (lv_at hl 0 rfl) ?_
      refine lv_sipush (v := 1000) hx hb (zat zrX5_commonPart_0_ok 7 rfl) (by decide) ?_
      have J45 : ∀ (H : Heap) (locs : List Loc) (ls : Array Slot), f_X5_commonPart_J45 v9_l4 = some out → va_P (dC, dI) vwCl [] H → va_D A [] → va_S A s.heap H locs → lv_has ls 11 [(4, .long v9_l4)] → W p l e (headSpec vfX5_commonPart { frames := 0, cells := 0, slots := 0, locals := 0 }).room s m ([.long k0, .long k1]).toArray below meth c H locs 0 0 QQ (F0 m 45 ls []) := by
        intro  H locs ls h  hP hD hS hl
        rw [f_X5_commonPart_J45] at h
        refine lv_lload hx hb (zat zrX5_commonPart_0_ok 23 rfl) (lv_at hl 0 rfl) ?_
        obtain rfl := Option.some.inj h
        obtain ⟨hP9, hD9⟩ := pd_sub [] [] hP hD (by decide) rfl
        have hK9 := hK.sub (tys' := []) [] rfl
        rw [hQQ]
        exact W.lret (v := v9_l4) hx hb hr (fun t ht hW => ⟨⟨v9_l4, (), rfl, rfl, by rw [ht]; exact hP9, va_K.moved hW.alike hK9, hD9⟩, hS.F ht⟩) hS.2.2 (zat zrX5_commonPart_0_ok 24 rfl)
      refine lv_icmp_ge (tgt := 45) hx hb (zat zrX5_commonPart_0_ok 8 rfl) (by decide) (fun c14 => ?_) (fun c14 => ?_)
      · have h := (if_pos c14).symm.trans h
        exact J45  H _ ls h  hP hD hS (lv_sub hl [2] rfl)
      · have h := (if_neg c14).symm.trans h
        refine lv_lload hx hb (zat zrX5_commonPart_0_ok 9 rfl) (lv_at hl 1 rfl) ?_
        refine lv_lconst (v := 0) hx hb (zat zrX5_commonPart_0_ok 10 rfl) (by decide) ?_
        refine W.lcmp hx hb (zat zrX5_commonPart_0_ok 11 rfl) ?_
        refine lv_if_eq (tgt := 45) hx hb (zat zrX5_commonPart_0_ok 12 rfl) (by decide) (fun c21 => ?_) (fun c21 => ?_)
        · have h := (if_pos c21).symm.trans h
          exact J45  H _ ls h  hP hD hS (lv_sub hl [2] rfl)
        · have h := (if_neg c21).symm.trans h
          refine lv_lload hx hb (zat zrX5_commonPart_0_ok 13 rfl) (lv_at hl 2 rfl) ?_
          refine lv_lload hx hb (zat zrX5_commonPart_0_ok 14 rfl) (lv_at hl 1 rfl) ?_
          obtain ⟨hg28, h⟩ := gZl_of h
          refine lv_lrem hx hb (zat zrX5_commonPart_0_ok 15 rfl) hg28 ?_
          refine lv_lstore (lv' := [(9, .long (v9_l4 - v9_l4 / v9_l6 * v9_l6)), (8, .int v9_l8), (6, .long v9_l6), (4, .long v9_l4)]) hx hb (zat zrX5_commonPart_0_ok 16 rfl) hl (by decide) rfl (fun ls hl => ?_)
          refine lv_lload hx hb (zat zrX5_commonPart_0_ok 17 rfl) (lv_at hl 2 rfl) ?_
          refine lv_lstore (lv' := [(4, .long v9_l6), (9, .long (v9_l4 - v9_l4 / v9_l6 * v9_l6)), (8, .int v9_l8), (6, .long v9_l6)]) hx hb (zat zrX5_commonPart_0_ok 18 rfl) hl (by decide) rfl (fun ls hl => ?_)
          refine lv_lload hx hb (zat zrX5_commonPart_0_ok 19 rfl) (lv_at hl 1 rfl) ?_
          refine lv_lstore (lv' := [(6, .long (v9_l4 - v9_l4 / v9_l6 * v9_l6)), (4, .long v9_l6), (9, .long (v9_l4 - v9_l4 / v9_l6 * v9_l6)), (8, .int v9_l8)]) hx hb (zat zrX5_commonPart_0_ok 20 rfl) hl (by decide) rfl (fun ls hl => ?_)
          refine lv_iinc (v := (v9_l8 + (1 : Int32))) (lv' := [(8, .int (v9_l8 + (1 : Int32))), (6, .long (v9_l4 - v9_l4 / v9_l6 * v9_l6)), (4, .long v9_l6), (9, .long (v9_l4 - v9_l4 / v9_l6 * v9_l6))]) hx hb (zat zrX5_commonPart_0_ok 21 rfl) hl (k := 3) rfl rfl (by decide) rfl (fun ls hl => ?_)
          refine lv_goto (tgt := 9) hx hb (zat zrX5_commonPart_0_ok 22 rfl) (by decide) ?_
          exact ih9 (v9_l8 + (1 : Int32)) (v9_l4 - v9_l4 / v9_l6 * v9_l6) v9_l6 H _ ls h  hP hD hS (lv_sub hl [0, 1, 2] rfl)
  exact L9 FU (0 : Int32) k1 k0 s.heap _ ls h  hP hD hS (lv_sub hl [0, 1, 2] rfl)
noncomputable def zrX5_term_0 : List ZR := zc 0 true (.ldc2_w 9) 3 (zc 3 true (.lload_n 0) 1 (zc 4 true (.invokestatic 53) 3 (zc 7 true (.lstore_n 3) 1 (zc 8 true (.lload_n 3) 1 (zc 9 true (.lconst 0) 1 (zc 10 true (.lcmp) 1 (zc 11 true (.ifCond .ne 5) 3 (zc 14 true (.lconst 0) 1 (zc 15 true (.lreturn) 1 (zc 16 true (.iload_n 2) 1 (zc 17 true (.ifCond .eq 9) 3 (zc 20 true (.ldc2_w 9) 3 (zc 23 true (.goto 4) 3 (zc 26 true (.lload_n 0) 1 (zc 27 true (.lload_n 3) 1 (zc 28 true (.ldiv) 1 (zc 29 true (.lreturn) 1 ([]))))))))))))))))))
theorem zrX5_term_0_ok : zck 0 ((zby cX5_term).drop 0) zrX5_term_0 = true := by decide +kernel
def vfX5_term : List Cond := List.cons (.code yX5_term cX5_term 5 (some .long)) (apW [.constantLong RX5 9 (1000000000000), .methodLink RX5 53 yX5_commonPart, .static yX5_commonPart, .initialized RX5] (vfX5_commonPart))
theorem qfX5_term : Good vfX5_term := gd_cons (by decide +kernel) (gd_app (gd_dec (by decide +kernel) : Good [.constantLong RX5 9 (1000000000000), .methodLink RX5 53 yX5_commonPart, .static yX5_commonPart, .initialized RX5]) qfX5_commonPart)
theorem gfX5_term_0 : GoodIn vfX5_term (va_wsS RX5 53 yX5_commonPart vfX5_commonPart) := goodIn_app (goodIn_r [.methodLink RX5 53 yX5_commonPart, .static yX5_commonPart, .initialized RX5] [2, 3, 4] rfl (by decide +kernel)) (goodIn_m (fun _ h => (List.mem_cons_of_mem _ (List.mem_append_right _ h))) qfX5_commonPart)
set_option maxHeartbeats 2000000 in
set_option maxRecDepth 100000 in
theorem kfX5_term (l : Launch) (dC : Nat → ClassId) (dI : Nat → Nat → Nat) (k0 : Int64) (k1 : Int32) (sz : Nat) (out : Int64) (h : f_X5_term k0 k1 = some out) : KDl l yX5_term vfX5_term ({ frames := 1, cells := 0, slots := 0, locals := 30 }) (dC, dI) [.long k0, .int k1] sz [] ([]) (fun (r : Int64) _ => r = out) 0 0 := by
  refine Met.ofW (cc := cX5_term) (maxL := 5) (ret := (some .long)) (by decide) rfl ?_
  intro p e s m args below meth c s₁ B0 hml hv
  obtain ⟨rfl, hsz, hP, hK, hD0, hN⟩ := hv
  have hx := B0.exec
  have hb := B0.bytes
  have hr := B0.returns
  have hts := atoms_spec (ws := vfX5_term) B0.pre
  have hown : s.vm.findClass RX5 = some m.cls := findClass_of_methodNamed B0.named
  have hlocks := B0.notSynchronized
  subst hsz
  have hD := hD0.self (sz := s.heap.size)
  generalize hAe : va_A [] s.heap.size = A at hD ⊢
  have hA : ∀ q : Nat, s.heap.size ≤ q → A q := fun q h => by rw [← hAe]; exact Or.inr h
  have hS : va_S A s.heap s.heap [] := va_S.rf
  have hP : va_P (dC, dI) vwCl [] s.heap := hP
  have hl := lv_entry ([.long k0, .int k1]) (n := 5) (Nat.le_of_ble_eq_true rfl)
  rw [lg_entry_eq]
  generalize (lg_sl ([.long k0, .int k1]) ++ List.replicate (5 - (lg_sl ([.long k0, .int k1])).length) Slot.unset).toArray = ls at hl ⊢
  have hl : lv_has ls 5 [(0, .long k0), (2, .int k1)] := hl
  refine W_q (fun QQ hQQ => ?_)
  rw [f_X5_term] at h
  refine lv_ldc2 hx hb hown (hts (.constantLong RX5 9 (1000000000000)) (List.mem_of_getElem? (i := 1) rfl)) (zat zrX5_term_0_ok 0 rfl) ?_
  refine lv_lload_n hx hb (zat zrX5_term_0_ok 1 rfl) rfl (lv_at hl 0 rfl) ?_
  obtain ⟨o4, eo4, h⟩ := bd_of h
  refine ck_l (wc := []) (wr := []) hP hD hK hS hA [] [] rfl rfl (by decide) (by decide) (by decide) (fun hPc hDc => (va_runS (As := [.long 1000000000000, .long k0]) (rest := []) ⟨hx, hb, hml, hown, hts⟩ (kfX5_commonPart l dC dI (1000000000000 : Int64) k0 s.heap.size o4 eo4) (va_cwS 2 hts gfX5_term_0 rfl rfl rfl (by decide +kernel) ⟨(Nat.le_of_ble_eq_true rfl), (Nat.le_of_ble_eq_true rfl)⟩) (PS hPc (hK.sub (tys' := ([])) [] rfl) hDc hN) rfl rfl hl.1 rfl (lv_room (Nat.le_of_ble_eq_true rfl)) (zat zrX5_term_0_ok 2 rfl) ⟨(Nat.le_of_ble_eq_true rfl), (Nat.le_of_ble_eq_true rfl)⟩)) (fun r4 _ H locs hw hP hD _ hS => ?_)
  obtain rfl := hw.symm
  obtain ⟨hP, hD⟩ := pd_mk [] hP hD
  refine lv_lstore_n (lv' := [(3, .long o4), (0, .long k0), (2, .int k1)]) hx hb (zat zrX5_term_0_ok 3 rfl) rfl hl (by decide) rfl (fun ls hl => ?_)
  refine lv_lload_n hx hb (zat zrX5_term_0_ok 4 rfl) rfl (lv_at hl 0 rfl) ?_
  refine lv_lconst (v := 0) hx hb (zat zrX5_term_0_ok 5 rfl) (by decide) ?_
  refine W.lcmp hx hb (zat zrX5_term_0_ok 6 rfl) ?_
  refine lv_if_ne (tgt := 16) hx hb (zat zrX5_term_0_ok 7 rfl) (by decide) (fun c11 => ?_) (fun c11 => ?_)
  · have h := (if_neg c11).symm.trans h
    refine lv_iload_n hx hb (zat zrX5_term_0_ok 10 rfl) rfl (lv_at hl 2 rfl) ?_
    have J27 : ∀ (v27_t0 : Int64) (H : Heap) (locs : List Loc) (ls : Array Slot), f_X5_term_J27 o4 v27_t0 = some out → va_P (dC, dI) vwCl [] H → va_D A [] → va_S A s.heap H locs → lv_has ls 5 [(3, .long o4)] → W p l e (headSpec vfX5_term { frames := 1, cells := 0, slots := 0, locals := 30 }).room s m ([.long k0, .int k1]).toArray below meth c H locs 0 0 QQ (F0 m 27 ls [.long v27_t0]) := by
      intro v27_t0 H locs ls h  hP hD hS hl
      rw [f_X5_term_J27] at h
      refine lv_lload_n hx hb (zat zrX5_term_0_ok 15 rfl) rfl (lv_at hl 0 rfl) ?_
      obtain ⟨hg28, h⟩ := gZl_of h
      refine lv_ldiv hx hb (zat zrX5_term_0_ok 16 rfl) hg28 ?_
      obtain rfl := Option.some.inj h
      obtain ⟨hP9, hD9⟩ := pd_sub [] [] hP hD (by decide) rfl
      have hK9 := hK.sub (tys' := []) [] rfl
      rw [hQQ]
      exact W.lret (v := (v27_t0 / o4)) hx hb hr (fun t ht hW => ⟨⟨(v27_t0 / o4), (), rfl, rfl, by rw [ht]; exact hP9, va_K.moved hW.alike hK9, hD9⟩, hS.F ht⟩) hS.2.2 (zat zrX5_term_0_ok 17 rfl)
    refine lv_if_eq (tgt := 26) hx hb (zat zrX5_term_0_ok 11 rfl) (by decide) (fun c17 => ?_) (fun c17 => ?_)
    · have h := (if_pos c17).symm.trans h
      refine lv_lload_n hx hb (zat zrX5_term_0_ok 14 rfl) rfl (lv_at hl 1 rfl) ?_
      exact J27 k0 H _ ls h  hP hD hS (lv_sub hl [0] rfl)
    · have h := (if_neg c17).symm.trans h
      refine lv_ldc2 hx hb hown (hts (.constantLong RX5 9 (1000000000000)) (List.mem_of_getElem? (i := 1) rfl)) (zat zrX5_term_0_ok 12 rfl) ?_
      refine lv_goto (tgt := 27) hx hb (zat zrX5_term_0_ok 13 rfl) (by decide) ?_
      exact J27 (1000000000000 : Int64) H _ ls h  hP hD hS (lv_sub hl [0] rfl)
  · have h := (if_pos c11).symm.trans h
    refine lv_lconst (v := 0) hx hb (zat zrX5_term_0_ok 8 rfl) (by decide) ?_
    obtain rfl := Option.some.inj h
    obtain ⟨hP9, hD9⟩ := pd_sub [] [] hP hD (by decide) rfl
    have hK9 := hK.sub (tys' := []) [] rfl
    rw [hQQ]
    exact W.lret (v := (0 : Int64)) hx hb hr (fun t ht hW => ⟨⟨(0 : Int64), (), rfl, rfl, by rw [ht]; exact hP9, va_K.moved hW.alike hK9, hD9⟩, hS.F ht⟩) hS.2.2 (zat zrX5_term_0_ok 9 rfl)
noncomputable def zrX10_takes_0 : List ZR := zc 0 true (.aload_n 0) 1 (zc 1 true (.aload_n 0) 1 (zc 2 true (.iload_n 1) 1 (zc 3 true (.iload_n 2) 1 (zc 4 true (.iload_n 3) 1 (zc 5 true (.iload 4) 2 (zc 7 true (.invokevirtual 176) 3 (zc 10 true (.invokevirtual 79) 3 (zc 13 true (.ifCond .eq 7) 3 (zc 16 true (.ldc2_w 187) 3 (zc 19 true (.lreturn) 1 (zc 20 true (.aload_n 0) 1 (zc 21 true (.getfield 10) 3 (zc 24 true (.aload_n 0) 1 (zc 25 true (.getfield 29) 3 (zc 28 true (.iload_n 1) 1 (zc 29 true (.iload_n 2) 1 (zc 30 true (.iload_n 3) 1 (zc 31 true (.iload 4) 2 (zc 33 true (.invokestatic 180) 3 (zc 36 true (.invokestatic 189) 3 (zc 39 true (.iload 5) 2 (zc 41 true (.invokestatic 195) 3 (zc 44 true (.lreturn) 1 ([]))))))))))))))))))))))))
theorem zrX10_takes_0_ok : zck 0 ((zby cX10_takes).drop 0) zrX10_takes_0 = true := by decide +kernel
def vfX10_takes : List Cond := List.cons (.code yX10_takes cX10_takes 6 (some .long)) (apW [.methodLink RX10 176 yX10_wishTrouble, .instanceMethod yX10_wishTrouble, .selects RX10 yX10_wishTrouble yX10_wishTrouble, .initialized RX10, .methodLink RX10 79 yX10_refused, .instanceMethod yX10_refused, .selects RX10 yX10_refused yX10_refused, .fieldLink RX10 10 "HookPier" "plan" "LHookPier$Plan;", .fieldLink RX10 29 "HookPier" "now" "LHookPier$Now;", .methodLink RX10 180 yX10_question, .static yX10_question, .methodLink RX10 189 yX5_chance, .static yX5_chance, .initialized RX5, .methodLink RX10 195 yX5_term, .static yX5_term, .constantLong RX10 187 (-1)] (apW wsX100 (apW vfX10_wishTrouble (apW vfX10_refused (apW vfX10_question (apW vfX5_chance (vfX5_term)))))))
theorem ifX10_takes_X10 : ∀ w ∈ wsX100, w ∈ vfX10_takes := fun _ h => (List.mem_cons_of_mem _ (List.mem_append_right _ (List.mem_append_left _ h)))
theorem qfX10_takes : Good vfX10_takes := gd_cons (by decide +kernel) (gd_app (gd_dec (by decide +kernel) : Good [.methodLink RX10 176 yX10_wishTrouble, .instanceMethod yX10_wishTrouble, .selects RX10 yX10_wishTrouble yX10_wishTrouble, .initialized RX10, .methodLink RX10 79 yX10_refused, .instanceMethod yX10_refused, .selects RX10 yX10_refused yX10_refused, .fieldLink RX10 10 "HookPier" "plan" "LHookPier$Plan;", .fieldLink RX10 29 "HookPier" "now" "LHookPier$Now;", .methodLink RX10 180 yX10_question, .static yX10_question, .methodLink RX10 189 yX5_chance, .static yX5_chance, .initialized RX5, .methodLink RX10 195 yX5_term, .static yX5_term, .constantLong RX10 187 (-1)]) (gd_app qsX10 (gd_app qfX10_wishTrouble (gd_app qfX10_refused (gd_app qfX10_question (gd_app qfX5_chance qfX5_term))))))
theorem gfX10_takes_0 : GoodIn vfX10_takes (wsV RX10 176 RX10 yX10_wishTrouble vfX10_wishTrouble) := goodIn_app (goodIn_r [.methodLink RX10 176 yX10_wishTrouble, .instanceMethod yX10_wishTrouble, .selects RX10 yX10_wishTrouble yX10_wishTrouble, .initialized RX10] [1, 2, 3, 4] rfl (by decide +kernel)) (goodIn_m (fun _ h => (List.mem_cons_of_mem _ (List.mem_append_right _ (List.mem_append_right _ (List.mem_append_left _ h))))) qfX10_wishTrouble)
theorem gfX10_takes_1 : GoodIn vfX10_takes (wsV RX10 79 RX10 yX10_refused vfX10_refused) := goodIn_app (goodIn_r [.methodLink RX10 79 yX10_refused, .instanceMethod yX10_refused, .selects RX10 yX10_refused yX10_refused, .initialized RX10] [5, 6, 7, 4] rfl (by decide +kernel)) (goodIn_m (fun _ h => (List.mem_cons_of_mem _ (List.mem_append_right _ (List.mem_append_right _ (List.mem_append_right _ (List.mem_append_left _ h)))))) qfX10_refused)
theorem gfX10_takes_2 : GoodIn vfX10_takes (va_wsS RX10 180 yX10_question vfX10_question) := goodIn_app (goodIn_r [.methodLink RX10 180 yX10_question, .static yX10_question, .initialized RX10] [10, 11, 4] rfl (by decide +kernel)) (goodIn_m (fun _ h => (List.mem_cons_of_mem _ (List.mem_append_right _ (List.mem_append_right _ (List.mem_append_right _ (List.mem_append_right _ (List.mem_append_left _ h))))))) qfX10_question)
theorem gfX10_takes_3 : GoodIn vfX10_takes (va_wsS RX10 189 yX5_chance vfX5_chance) := goodIn_app (goodIn_r [.methodLink RX10 189 yX5_chance, .static yX5_chance, .initialized RX5] [12, 13, 14] rfl (by decide +kernel)) (goodIn_m (fun _ h => (List.mem_cons_of_mem _ (List.mem_append_right _ (List.mem_append_right _ (List.mem_append_right _ (List.mem_append_right _ (List.mem_append_right _ (List.mem_append_left _ h)))))))) qfX5_chance)
theorem gfX10_takes_4 : GoodIn vfX10_takes (va_wsS RX10 195 yX5_term vfX5_term) := goodIn_app (goodIn_r [.methodLink RX10 195 yX5_term, .static yX5_term, .initialized RX5] [15, 16, 14] rfl (by decide +kernel)) (goodIn_m (fun _ h => (List.mem_cons_of_mem _ (List.mem_append_right _ (List.mem_append_right _ (List.mem_append_right _ (List.mem_append_right _ (List.mem_append_right _ (List.mem_append_right _ h)))))))) qfX5_term)
set_option maxHeartbeats 2000000 in
set_option maxRecDepth 100000 in
theorem kfX10_takes (l : Launch) (dC : Nat → ClassId) (dI : Nat → Nat → Nat) (a0 : Nat) (k1 : Int32) (k2 : Int32) (k3 : Int32) (k4 : Int32) (k5 : Int32) (a6 : Nat) (a7 : Nat) (up : Nat → Nat) (kp : Nat → ClassId) (un : Nat → Nat) (kn : Nat → ClassId) (x_x : TX10_x) (g13 : Value) (g14 : Value) (g15 : Value) (g16 : Value) (g17 : Value) (g18 : Value) (p_p : TX6_p) (n_n : TX4_n) (sz : Nat) (out : (Int64 × TX10_x)) (h : f_X10_takes k1 k2 k3 k4 k5 x_x p_p n_n = some out) : KCl l yX10_takes vfX10_takes ({ frames := 4, cells := 0, slots := 0, locals := 95 }) (dC, dI) [.ref a0, .int k1, .int k2, .int k3, .int k4, .int k5] sz ((a0, .inr (7, [.ref a6, g13, g14, .ref a7, g15, g16, g17, g18, .int x_x.1, .int x_x.2])) :: bX6 a6 up kp p_p (bX4 a7 un kn n_n [])) (tX6 kp (tX4 kn ([]))) (fun (r : Int64) _ => r = out.1) ((a0, .inr (7, [.ref a6, g13, g14, .ref a7, g15, g16, g17, g18, .int out.2.1, .int out.2.2])) :: bX6 a6 up kp p_p (bX4 a7 un kn n_n [])) 0 0 := by
  refine Met.ofW (cc := cX10_takes) (maxL := 6) (ret := (some .long)) (by decide) rfl ?_
  intro p e s m args below meth c s₁ B0 hml hv
  obtain ⟨rfl, hsz, hP, hK, hD0, hN⟩ := hv
  have hx := B0.exec
  have hb := B0.bytes
  have hr := B0.returns
  have hts := atoms_spec (ws := vfX10_takes) B0.pre
  have hown : s.vm.findClass RX10 = some m.cls := findClass_of_methodNamed B0.named
  have hlocks := B0.notSynchronized
  subst hsz
  have hD := hD0.self (sz := s.heap.size)
  generalize hAe : va_A ((a0, .inr (7, [.ref a6, g13, g14, .ref a7, g15, g16, g17, g18, .int x_x.1, .int x_x.2])) :: bX6 a6 up kp p_p (bX4 a7 un kn n_n [])) s.heap.size = A at hD ⊢
  have hA : ∀ q : Nat, s.heap.size ≤ q → A q := fun q h => by rw [← hAe]; exact Or.inr h
  have hS : va_S A s.heap s.heap [] := va_S.rf
  have hP : va_P (dC, dI) vwCl ((a0, .inr (7, [.ref a6, g13, g14, .ref a7, g15, g16, g17, g18, .int x_x.1, .int x_x.2])) :: bX6 a6 up kp p_p (bX4 a7 un kn n_n [])) s.heap := hP
  have hl := lv_entry ([.ref a0, .int k1, .int k2, .int k3, .int k4, .int k5]) (n := 6) (Nat.le_of_ble_eq_true rfl)
  rw [lg_entry_eq]
  generalize (lg_sl ([.ref a0, .int k1, .int k2, .int k3, .int k4, .int k5]) ++ List.replicate (6 - (lg_sl ([.ref a0, .int k1, .int k2, .int k3, .int k4, .int k5])).length) Slot.unset).toArray = ls at hl ⊢
  have hl : lv_has ls 6 [(0, .ref a0), (1, .int k1), (2, .int k2), (3, .int k3), (4, .int k4), (5, .int k5)] := hl
  refine W_q (fun QQ hQQ => ?_)
  rw [f_X10_takes] at h
  refine lv_aload_n hx hb (zat zrX10_takes_0_ok 0 rfl) rfl (lv_at hl 0 rfl) ?_
  refine lv_aload_n hx hb (zat zrX10_takes_0_ok 1 rfl) rfl (lv_at hl 0 rfl) ?_
  refine lv_iload_n hx hb (zat zrX10_takes_0_ok 2 rfl) rfl (lv_at hl 1 rfl) ?_
  refine lv_iload_n hx hb (zat zrX10_takes_0_ok 3 rfl) rfl (lv_at hl 2 rfl) ?_
  refine lv_iload_n hx hb (zat zrX10_takes_0_ok 4 rfl) rfl (lv_at hl 3 rfl) ?_
  refine lv_iload hx hb (zat zrX10_takes_0_ok 5 rfl) (lv_at hl 4 rfl) ?_
  obtain ⟨o7, eo7⟩ : ∃ o, o = f_X10_wishTrouble k1 k2 k3 k4 p_p := ⟨_, rfl⟩
  have h := nm_of h o7 eo7
  refine ck_i (wc := ((a0, .inr (7, [.ref a6, g13, g14, .ref a7, g15, g16, g17, g18, .int x_x.1, .int x_x.2])) :: bX6 a6 up kp p_p [])) (wr := (bX4 a7 un kn n_n [])) hP hD hK hS hA [0, 1, 2, 3, 4, 5, 6, 7, 8, 9, 10] [11, 12, 13, 14, 15] rfl rfl (by decide) (by decide) (by decide) (fun hPc hDc => (va_runV (As := [.int k1, .int k2, .int k3, .int k4]) (rest := [.ref a0]) ⟨hx, hb, hml, hown, hts⟩ (kfX10_wishTrouble l dC dI a0 k1 k2 k3 k4 a6 up kp (g13) (g14) (.ref a7) (g15) (g16) (g17) (g18) (.int x_x.1) (.int x_x.2) p_p s.heap.size o7 eo7.symm) (cwV 4 hts gfX10_takes_0 rfl rfl rfl (by decide +kernel) ⟨(Nat.le_of_ble_eq_true rfl), (Nat.le_of_ble_eq_true rfl)⟩) (PV hPc (hK.sub (tys' := (tX6 kp ([]))) [0, 1, 2, 3, 4, 5, 6, 7, 8] rfl) hDc hN 0 rfl rfl) rfl rfl hl.1 rfl (lv_room (Nat.le_of_ble_eq_true rfl)) (zat zrX10_takes_0_ok 6 rfl) ⟨(Nat.le_of_ble_eq_true rfl), (Nat.le_of_ble_eq_true rfl)⟩)) (fun r7 _ H locs hw hP hD _ hS => ?_)
  obtain rfl := hw.symm
  obtain ⟨hP, hD⟩ := pd_mk (bX4 a7 un kn n_n ((a0, .inr (7, [.ref a6, g13, g14, .ref a7, g15, g16, g17, g18, .int x_x.1, .int x_x.2])) :: bX6 a6 up kp p_p [])) hP hD
  obtain ⟨o10, eo10⟩ : ∃ o, o = f_X10_refused o7 x_x := ⟨_, rfl⟩
  have h := nm_of h o10 eo10
  refine ck_i (wc := ([(a0, .inr (7, [.ref a6, g13, g14, .ref a7, g15, g16, g17, g18, .int x_x.1, .int x_x.2]))])) (wr := (bX4 a7 un kn n_n (bX6 a6 up kp p_p []))) hP hD hK hS hA [5] [0, 1, 2, 3, 4, 6, 7, 8, 9, 10, 11, 12, 13, 14, 15] rfl rfl (by decide) (by decide) (by decide) (fun hPc hDc => (va_runV (As := [.int o7]) (rest := []) ⟨hx, hb, hml, hown, hts⟩ (kfX10_refused l dC dI a0 o7 x_x (.ref a6) (g13) (g14) (.ref a7) (g15) (g16) (g17) (g18) H.size o10 eo10.symm) (cwV 1 hts gfX10_takes_1 rfl rfl rfl (by decide +kernel) ⟨(Nat.le_of_ble_eq_true rfl), (Nat.le_of_ble_eq_true rfl)⟩) (PV hPc (hK.sub (tys' := ([])) [] rfl) hDc hN 0 rfl rfl) rfl rfl hl.1 rfl (lv_room (Nat.le_of_ble_eq_true rfl)) (zat zrX10_takes_0_ok 7 rfl) ⟨(Nat.le_of_ble_eq_true rfl), (Nat.le_of_ble_eq_true rfl)⟩)) (fun r10 _ H locs hw hP hD _ hS => ?_)
  obtain ⟨hw, br10⟩ := hw
  obtain rfl := hw
  obtain ⟨hP, hD⟩ := pd_mk (bX4 a7 un kn n_n (bX6 a6 up kp p_p ([(a0, .inr (7, [.ref a6, g13, g14, .ref a7, g15, g16, g17, g18, .int o10.2.1, .int o10.2.2]))]))) hP hD
  refine lv_if_eq (tgt := 20) hx hb (zat zrX10_takes_0_ok 8 rfl) (by decide) (fun c13 => ?_) (fun c13 => ?_)
  · have h := (if_pos c13).symm.trans h
    refine lv_aload_n hx hb (zat zrX10_takes_0_ok 11 rfl) rfl (lv_at hl 0 rfl) ?_
    refine va_get (D := (dC, dI)) (ci := 7) (v := .ref a6) (C := RX10) (T := TX10) (N := 10) hx hb hts ifX10_takes_X10 hown hK hP 15 rfl rfl 0 (by decide) (hts (.fieldLink RX10 10 "HookPier" "plan" "LHookPier$Plan;") (List.mem_of_getElem? (i := 8) rfl)) (fun _ h9 => h9) rfl (zat zrX10_takes_0_ok 12 rfl) ?_
    refine lv_aload_n hx hb (zat zrX10_takes_0_ok 13 rfl) rfl (lv_at hl 0 rfl) ?_
    refine va_get (D := (dC, dI)) (ci := 7) (v := .ref a7) (C := RX10) (T := TX10) (N := 10) hx hb hts ifX10_takes_X10 hown hK hP 15 rfl rfl 3 (by decide) (hts (.fieldLink RX10 29 "HookPier" "now" "LHookPier$Now;") (List.mem_of_getElem? (i := 9) rfl)) (fun _ h9 => h9) rfl (zat zrX10_takes_0_ok 14 rfl) ?_
    refine lv_iload_n hx hb (zat zrX10_takes_0_ok 15 rfl) rfl (lv_at hl 1 rfl) ?_
    refine lv_iload_n hx hb (zat zrX10_takes_0_ok 16 rfl) rfl (lv_at hl 2 rfl) ?_
    refine lv_iload_n hx hb (zat zrX10_takes_0_ok 17 rfl) rfl (lv_at hl 3 rfl) ?_
    refine lv_iload hx hb (zat zrX10_takes_0_ok 18 rfl) (lv_at hl 4 rfl) ?_
    obtain ⟨o33, eo33⟩ : ∃ o, o = f_X10_question k2 k3 k4 := ⟨_, rfl⟩
    have h := nm_of h o33 eo33
    refine ck_i (wc := []) (wr := (bX4 a7 un kn n_n (bX6 a6 up kp p_p ([(a0, .inr (7, [.ref a6, g13, g14, .ref a7, g15, g16, g17, g18, .int o10.2.1, .int o10.2.2]))])))) hP hD hK hS hA [] [0, 1, 2, 3, 4, 5, 6, 7, 8, 9, 10, 11, 12, 13, 14, 15] rfl rfl (by decide) (by decide) (by decide) (fun hPc hDc => (va_runS (As := [.int k2, .int k3, .int k4]) (rest := [.int k1, .ref a7, .ref a6]) ⟨hx, hb, hml, hown, hts⟩ (kfX10_question l dC dI k2 k3 k4 H.size o33 eo33.symm) (va_cwS 3 hts gfX10_takes_2 rfl rfl rfl (by decide +kernel) ⟨(Nat.le_of_ble_eq_true rfl), (Nat.le_of_ble_eq_true rfl)⟩) (PS hPc (hK.sub (tys' := ([])) [] rfl) hDc hN) rfl rfl hl.1 rfl (lv_room (Nat.le_of_ble_eq_true rfl)) (zat zrX10_takes_0_ok 19 rfl) ⟨(Nat.le_of_ble_eq_true rfl), (Nat.le_of_ble_eq_true rfl)⟩)) (fun r33 _ H locs hw hP hD _ hS => ?_)
    obtain rfl := hw.symm
    obtain ⟨hP, hD⟩ := pd_mk (bX4 a7 un kn n_n (bX6 a6 up kp p_p ([(a0, .inr (7, [.ref a6, g13, g14, .ref a7, g15, g16, g17, g18, .int o10.2.1, .int o10.2.2]))]))) hP hD
    obtain ⟨o36, eo36, h⟩ := bd_of h
    refine ck_l (wc := (bX6 a6 up kp p_p (bX4 a7 un kn n_n []))) (wr := ([(a0, .inr (7, [.ref a6, g13, g14, .ref a7, g15, g16, g17, g18, .int o10.2.1, .int o10.2.2]))])) hP hD hK hS hA [5, 6, 7, 8, 9, 10, 11, 12, 13, 14, 0, 1, 2, 3, 4] [15] rfl rfl (by decide) (by decide) (by decide) (fun hPc hDc => (va_runS (As := [.ref a6, .ref a7, .int k1, .int o33]) (rest := []) ⟨hx, hb, hml, hown, hts⟩ (kfX5_chance l dC dI a6 a7 k1 o33 up kp un kn p_p n_n H.size o36 eo36) (va_cwS 4 hts gfX10_takes_3 rfl rfl rfl (by decide +kernel) ⟨(Nat.le_of_ble_eq_true rfl), (Nat.le_of_ble_eq_true rfl)⟩) (PS hPc (hK.sub (tys' := (tX6 kp (tX4 kn ([])))) [0, 1, 2, 3, 4, 5, 6, 7, 8, 9, 10, 11, 12] rfl) hDc hN) rfl rfl hl.1 rfl (lv_room (Nat.le_of_ble_eq_true rfl)) (zat zrX10_takes_0_ok 20 rfl) ⟨(Nat.le_of_ble_eq_true rfl), (Nat.le_of_ble_eq_true rfl)⟩)) (fun r36 _ H locs hw hP hD _ hS => ?_)
    obtain rfl := hw.symm
    obtain ⟨hP, hD⟩ := pd_mk ((a0, .inr (7, [.ref a6, g13, g14, .ref a7, g15, g16, g17, g18, .int o10.2.1, .int o10.2.2])) :: bX6 a6 up kp p_p (bX4 a7 un kn n_n [])) hP hD
    refine lv_iload hx hb (zat zrX10_takes_0_ok 21 rfl) (lv_at hl 5 rfl) ?_
    obtain ⟨o41, eo41, h⟩ := bd_of h
    refine ck_l (wc := []) (wr := ((a0, .inr (7, [.ref a6, g13, g14, .ref a7, g15, g16, g17, g18, .int o10.2.1, .int o10.2.2])) :: bX6 a6 up kp p_p (bX4 a7 un kn n_n []))) hP hD hK hS hA [] [0, 1, 2, 3, 4, 5, 6, 7, 8, 9, 10, 11, 12, 13, 14, 15] rfl rfl (by decide) (by decide) (by decide) (fun hPc hDc => (va_runS (As := [.long o36, .int k5]) (rest := []) ⟨hx, hb, hml, hown, hts⟩ (kfX5_term l dC dI o36 k5 H.size o41 eo41) (va_cwS 2 hts gfX10_takes_4 rfl rfl rfl (by decide +kernel) ⟨(Nat.le_of_ble_eq_true rfl), (Nat.le_of_ble_eq_true rfl)⟩) (PS hPc (hK.sub (tys' := ([])) [] rfl) hDc hN) rfl rfl hl.1 rfl (lv_room (Nat.le_of_ble_eq_true rfl)) (zat zrX10_takes_0_ok 22 rfl) ⟨(Nat.le_of_ble_eq_true rfl), (Nat.le_of_ble_eq_true rfl)⟩)) (fun r41 _ H locs hw hP hD _ hS => ?_)
    obtain rfl := hw.symm
    obtain ⟨hP, hD⟩ := pd_mk ((a0, .inr (7, [.ref a6, g13, g14, .ref a7, g15, g16, g17, g18, .int o10.2.1, .int o10.2.2])) :: bX6 a6 up kp p_p (bX4 a7 un kn n_n [])) hP hD
    obtain rfl := Option.some.inj h
    obtain ⟨hP9, hD9⟩ := pd_sub ((a0, .inr (7, [.ref a6, g13, g14, .ref a7, g15, g16, g17, g18, .int o10.2.1, .int o10.2.2])) :: bX6 a6 up kp p_p (bX4 a7 un kn n_n [])) [0, 1, 2, 3, 4, 5, 6, 7, 8, 9, 10, 11, 12, 13, 14, 15] hP hD (by decide) rfl
    have hK9 := hK.sub (tys' := []) [] rfl
    rw [hQQ]
    exact W.lret (v := o41) hx hb hr (fun t ht hW => ⟨⟨o41, (), rfl, rfl, by rw [ht]; exact hP9, va_K.moved hW.alike hK9, hD9⟩, hS.F ht⟩) hS.2.2 (zat zrX10_takes_0_ok 23 rfl)
  · have h := (if_neg c13).symm.trans h
    refine lv_ldc2 hx hb hown (hts (.constantLong RX10 187 (-1)) (List.mem_of_getElem? (i := 17) rfl)) (zat zrX10_takes_0_ok 9 rfl) ?_
    obtain rfl := Option.some.inj h
    obtain ⟨hP9, hD9⟩ := pd_sub ((a0, .inr (7, [.ref a6, g13, g14, .ref a7, g15, g16, g17, g18, .int o10.2.1, .int o10.2.2])) :: bX6 a6 up kp p_p (bX4 a7 un kn n_n [])) [15, 5, 6, 7, 8, 9, 10, 11, 12, 13, 14, 0, 1, 2, 3, 4] hP hD (by decide) rfl
    have hK9 := hK.sub (tys' := []) [] rfl
    rw [hQQ]
    exact W.lret (v := (-1 : Int64)) hx hb hr (fun t ht hW => ⟨⟨(-1 : Int64), (), rfl, rfl, by rw [ht]; exact hP9, va_K.moved hW.alike hK9, hD9⟩, hS.F ht⟩) hS.2.2 (zat zrX10_takes_0_ok 10 rfl)
noncomputable def zrX10_nothing_0 : List ZR := zc 0 true (.aload_n 0) 1 (zc 1 true (.aload_n 0) 1 (zc 2 true (.iload_n 1) 1 (zc 3 true (.iload_n 2) 1 (zc 4 true (.iload_n 3) 1 (zc 5 true (.invokevirtual 199) 3 (zc 8 true (.invokevirtual 79) 3 (zc 11 true (.ifCond .eq 7) 3 (zc 14 true (.ldc2_w 187) 3 (zc 17 true (.lreturn) 1 (zc 18 true (.aload_n 0) 1 (zc 19 true (.getfield 10) 3 (zc 22 true (.aload_n 0) 1 (zc 23 true (.getfield 29) 3 (zc 26 true (.iconst (-1)) 1 (zc 27 true (.iload_n 1) 1 (zc 28 true (.iload_n 2) 1 (zc 29 true (.iload_n 3) 1 (zc 30 true (.invokestatic 180) 3 (zc 33 true (.invokestatic 189) 3 (zc 36 true (.iload 4) 2 (zc 38 true (.invokestatic 195) 3 (zc 41 true (.lreturn) 1 ([])))))))))))))))))))))))
theorem zrX10_nothing_0_ok : zck 0 ((zby cX10_nothing).drop 0) zrX10_nothing_0 = true := by decide +kernel
def vfX10_nothing : List Cond := List.cons (.code yX10_nothing cX10_nothing 5 (some .long)) (apW [.methodLink RX10 199 yX10_questionTrouble, .instanceMethod yX10_questionTrouble, .selects RX10 yX10_questionTrouble yX10_questionTrouble, .initialized RX10, .methodLink RX10 79 yX10_refused, .instanceMethod yX10_refused, .selects RX10 yX10_refused yX10_refused, .fieldLink RX10 10 "HookPier" "plan" "LHookPier$Plan;", .fieldLink RX10 29 "HookPier" "now" "LHookPier$Now;", .methodLink RX10 180 yX10_question, .static yX10_question, .methodLink RX10 189 yX5_chance, .static yX5_chance, .initialized RX5, .methodLink RX10 195 yX5_term, .static yX5_term, .constantLong RX10 187 (-1)] (apW wsX100 (apW vfX10_questionTrouble (apW vfX10_refused (apW vfX10_question (apW vfX5_chance (vfX5_term)))))))
theorem ifX10_nothing_X10 : ∀ w ∈ wsX100, w ∈ vfX10_nothing := fun _ h => (List.mem_cons_of_mem _ (List.mem_append_right _ (List.mem_append_left _ h)))
theorem qfX10_nothing : Good vfX10_nothing := gd_cons (by decide +kernel) (gd_app (gd_dec (by decide +kernel) : Good [.methodLink RX10 199 yX10_questionTrouble, .instanceMethod yX10_questionTrouble, .selects RX10 yX10_questionTrouble yX10_questionTrouble, .initialized RX10, .methodLink RX10 79 yX10_refused, .instanceMethod yX10_refused, .selects RX10 yX10_refused yX10_refused, .fieldLink RX10 10 "HookPier" "plan" "LHookPier$Plan;", .fieldLink RX10 29 "HookPier" "now" "LHookPier$Now;", .methodLink RX10 180 yX10_question, .static yX10_question, .methodLink RX10 189 yX5_chance, .static yX5_chance, .initialized RX5, .methodLink RX10 195 yX5_term, .static yX5_term, .constantLong RX10 187 (-1)]) (gd_app qsX10 (gd_app qfX10_questionTrouble (gd_app qfX10_refused (gd_app qfX10_question (gd_app qfX5_chance qfX5_term))))))
theorem gfX10_nothing_0 : GoodIn vfX10_nothing (wsV RX10 199 RX10 yX10_questionTrouble vfX10_questionTrouble) := goodIn_app (goodIn_r [.methodLink RX10 199 yX10_questionTrouble, .instanceMethod yX10_questionTrouble, .selects RX10 yX10_questionTrouble yX10_questionTrouble, .initialized RX10] [1, 2, 3, 4] rfl (by decide +kernel)) (goodIn_m (fun _ h => (List.mem_cons_of_mem _ (List.mem_append_right _ (List.mem_append_right _ (List.mem_append_left _ h))))) qfX10_questionTrouble)
theorem gfX10_nothing_1 : GoodIn vfX10_nothing (wsV RX10 79 RX10 yX10_refused vfX10_refused) := goodIn_app (goodIn_r [.methodLink RX10 79 yX10_refused, .instanceMethod yX10_refused, .selects RX10 yX10_refused yX10_refused, .initialized RX10] [5, 6, 7, 4] rfl (by decide +kernel)) (goodIn_m (fun _ h => (List.mem_cons_of_mem _ (List.mem_append_right _ (List.mem_append_right _ (List.mem_append_right _ (List.mem_append_left _ h)))))) qfX10_refused)
theorem gfX10_nothing_2 : GoodIn vfX10_nothing (va_wsS RX10 180 yX10_question vfX10_question) := goodIn_app (goodIn_r [.methodLink RX10 180 yX10_question, .static yX10_question, .initialized RX10] [10, 11, 4] rfl (by decide +kernel)) (goodIn_m (fun _ h => (List.mem_cons_of_mem _ (List.mem_append_right _ (List.mem_append_right _ (List.mem_append_right _ (List.mem_append_right _ (List.mem_append_left _ h))))))) qfX10_question)
theorem gfX10_nothing_3 : GoodIn vfX10_nothing (va_wsS RX10 189 yX5_chance vfX5_chance) := goodIn_app (goodIn_r [.methodLink RX10 189 yX5_chance, .static yX5_chance, .initialized RX5] [12, 13, 14] rfl (by decide +kernel)) (goodIn_m (fun _ h => (List.mem_cons_of_mem _ (List.mem_append_right _ (List.mem_append_right _ (List.mem_append_right _ (List.mem_append_right _ (List.mem_append_right _ (List.mem_append_left _ h)))))))) qfX5_chance)
theorem gfX10_nothing_4 : GoodIn vfX10_nothing (va_wsS RX10 195 yX5_term vfX5_term) := goodIn_app (goodIn_r [.methodLink RX10 195 yX5_term, .static yX5_term, .initialized RX5] [15, 16, 14] rfl (by decide +kernel)) (goodIn_m (fun _ h => (List.mem_cons_of_mem _ (List.mem_append_right _ (List.mem_append_right _ (List.mem_append_right _ (List.mem_append_right _ (List.mem_append_right _ (List.mem_append_right _ h)))))))) qfX5_term)
set_option maxHeartbeats 2000000 in
set_option maxRecDepth 100000 in
theorem kfX10_nothing (l : Launch) (dC : Nat → ClassId) (dI : Nat → Nat → Nat) (a0 : Nat) (k1 : Int32) (k2 : Int32) (k3 : Int32) (k4 : Int32) (a5 : Nat) (a6 : Nat) (up : Nat → Nat) (kp : Nat → ClassId) (un : Nat → Nat) (kn : Nat → ClassId) (x_x : TX10_x) (g12 : Value) (g13 : Value) (g14 : Value) (g15 : Value) (g16 : Value) (g17 : Value) (p_p : TX6_p) (n_n : TX4_n) (sz : Nat) (out : (Int64 × TX10_x)) (h : f_X10_nothing k1 k2 k3 k4 x_x p_p n_n = some out) : KCl l yX10_nothing vfX10_nothing ({ frames := 4, cells := 0, slots := 0, locals := 95 }) (dC, dI) [.ref a0, .int k1, .int k2, .int k3, .int k4] sz ((a0, .inr (7, [.ref a5, g12, g13, .ref a6, g14, g15, g16, g17, .int x_x.1, .int x_x.2])) :: bX6 a5 up kp p_p (bX4 a6 un kn n_n [])) (tX6 kp (tX4 kn ([]))) (fun (r : Int64) _ => r = out.1) ((a0, .inr (7, [.ref a5, g12, g13, .ref a6, g14, g15, g16, g17, .int out.2.1, .int out.2.2])) :: bX6 a5 up kp p_p (bX4 a6 un kn n_n [])) 0 0 := by
  refine Met.ofW (cc := cX10_nothing) (maxL := 5) (ret := (some .long)) (by decide) rfl ?_
  intro p e s m args below meth c s₁ B0 hml hv
  obtain ⟨rfl, hsz, hP, hK, hD0, hN⟩ := hv
  have hx := B0.exec
  have hb := B0.bytes
  have hr := B0.returns
  have hts := atoms_spec (ws := vfX10_nothing) B0.pre
  have hown : s.vm.findClass RX10 = some m.cls := findClass_of_methodNamed B0.named
  have hlocks := B0.notSynchronized
  subst hsz
  have hD := hD0.self (sz := s.heap.size)
  generalize hAe : va_A ((a0, .inr (7, [.ref a5, g12, g13, .ref a6, g14, g15, g16, g17, .int x_x.1, .int x_x.2])) :: bX6 a5 up kp p_p (bX4 a6 un kn n_n [])) s.heap.size = A at hD ⊢
  have hA : ∀ q : Nat, s.heap.size ≤ q → A q := fun q h => by rw [← hAe]; exact Or.inr h
  have hS : va_S A s.heap s.heap [] := va_S.rf
  have hP : va_P (dC, dI) vwCl ((a0, .inr (7, [.ref a5, g12, g13, .ref a6, g14, g15, g16, g17, .int x_x.1, .int x_x.2])) :: bX6 a5 up kp p_p (bX4 a6 un kn n_n [])) s.heap := hP
  have hl := lv_entry ([.ref a0, .int k1, .int k2, .int k3, .int k4]) (n := 5) (Nat.le_of_ble_eq_true rfl)
  rw [lg_entry_eq]
  generalize (lg_sl ([.ref a0, .int k1, .int k2, .int k3, .int k4]) ++ List.replicate (5 - (lg_sl ([.ref a0, .int k1, .int k2, .int k3, .int k4])).length) Slot.unset).toArray = ls at hl ⊢
  have hl : lv_has ls 5 [(0, .ref a0), (1, .int k1), (2, .int k2), (3, .int k3), (4, .int k4)] := hl
  refine W_q (fun QQ hQQ => ?_)
  rw [f_X10_nothing] at h
  refine lv_aload_n hx hb (zat zrX10_nothing_0_ok 0 rfl) rfl (lv_at hl 0 rfl) ?_
  refine lv_aload_n hx hb (zat zrX10_nothing_0_ok 1 rfl) rfl (lv_at hl 0 rfl) ?_
  refine lv_iload_n hx hb (zat zrX10_nothing_0_ok 2 rfl) rfl (lv_at hl 1 rfl) ?_
  refine lv_iload_n hx hb (zat zrX10_nothing_0_ok 3 rfl) rfl (lv_at hl 2 rfl) ?_
  refine lv_iload_n hx hb (zat zrX10_nothing_0_ok 4 rfl) rfl (lv_at hl 3 rfl) ?_
  obtain ⟨o5, eo5⟩ : ∃ o, o = f_X10_questionTrouble k1 k2 k3 p_p := ⟨_, rfl⟩
  have h := nm_of h o5 eo5
  refine ck_i (wc := ((a0, .inr (7, [.ref a5, g12, g13, .ref a6, g14, g15, g16, g17, .int x_x.1, .int x_x.2])) :: bX6 a5 up kp p_p [])) (wr := (bX4 a6 un kn n_n [])) hP hD hK hS hA [0, 1, 2, 3, 4, 5, 6, 7, 8, 9, 10] [11, 12, 13, 14, 15] rfl rfl (by decide) (by decide) (by decide) (fun hPc hDc => (va_runV (As := [.int k1, .int k2, .int k3]) (rest := [.ref a0]) ⟨hx, hb, hml, hown, hts⟩ (kfX10_questionTrouble l dC dI a0 k1 k2 k3 a5 up kp (g12) (g13) (.ref a6) (g14) (g15) (g16) (g17) (.int x_x.1) (.int x_x.2) p_p s.heap.size o5 eo5.symm) (cwV 3 hts gfX10_nothing_0 rfl rfl rfl (by decide +kernel) ⟨(Nat.le_of_ble_eq_true rfl), (Nat.le_of_ble_eq_true rfl)⟩) (PV hPc (hK.sub (tys' := (tX6 kp ([]))) [0, 1, 2, 3, 4, 5, 6, 7, 8] rfl) hDc hN 0 rfl rfl) rfl rfl hl.1 rfl (lv_room (Nat.le_of_ble_eq_true rfl)) (zat zrX10_nothing_0_ok 5 rfl) ⟨(Nat.le_of_ble_eq_true rfl), (Nat.le_of_ble_eq_true rfl)⟩)) (fun r5 _ H locs hw hP hD _ hS => ?_)
  obtain rfl := hw.symm
  obtain ⟨hP, hD⟩ := pd_mk (bX4 a6 un kn n_n ((a0, .inr (7, [.ref a5, g12, g13, .ref a6, g14, g15, g16, g17, .int x_x.1, .int x_x.2])) :: bX6 a5 up kp p_p [])) hP hD
  obtain ⟨o8, eo8⟩ : ∃ o, o = f_X10_refused o5 x_x := ⟨_, rfl⟩
  have h := nm_of h o8 eo8
  refine ck_i (wc := ([(a0, .inr (7, [.ref a5, g12, g13, .ref a6, g14, g15, g16, g17, .int x_x.1, .int x_x.2]))])) (wr := (bX4 a6 un kn n_n (bX6 a5 up kp p_p []))) hP hD hK hS hA [5] [0, 1, 2, 3, 4, 6, 7, 8, 9, 10, 11, 12, 13, 14, 15] rfl rfl (by decide) (by decide) (by decide) (fun hPc hDc => (va_runV (As := [.int o5]) (rest := []) ⟨hx, hb, hml, hown, hts⟩ (kfX10_refused l dC dI a0 o5 x_x (.ref a5) (g12) (g13) (.ref a6) (g14) (g15) (g16) (g17) H.size o8 eo8.symm) (cwV 1 hts gfX10_nothing_1 rfl rfl rfl (by decide +kernel) ⟨(Nat.le_of_ble_eq_true rfl), (Nat.le_of_ble_eq_true rfl)⟩) (PV hPc (hK.sub (tys' := ([])) [] rfl) hDc hN 0 rfl rfl) rfl rfl hl.1 rfl (lv_room (Nat.le_of_ble_eq_true rfl)) (zat zrX10_nothing_0_ok 6 rfl) ⟨(Nat.le_of_ble_eq_true rfl), (Nat.le_of_ble_eq_true rfl)⟩)) (fun r8 _ H locs hw hP hD _ hS => ?_)
  obtain ⟨hw, br8⟩ := hw
  obtain rfl := hw
  obtain ⟨hP, hD⟩ := pd_mk (bX4 a6 un kn n_n (bX6 a5 up kp p_p ([(a0, .inr (7, [.ref a5, g12, g13, .ref a6, g14, g15, g16, g17, .int o8.2.1, .int o8.2.2]))]))) hP hD
  refine lv_if_eq (tgt := 18) hx hb (zat zrX10_nothing_0_ok 7 rfl) (by decide) (fun c11 => ?_) (fun c11 => ?_)
  · have h := (if_pos c11).symm.trans h
    refine lv_aload_n hx hb (zat zrX10_nothing_0_ok 10 rfl) rfl (lv_at hl 0 rfl) ?_
    refine va_get (D := (dC, dI)) (ci := 7) (v := .ref a5) (C := RX10) (T := TX10) (N := 10) hx hb hts ifX10_nothing_X10 hown hK hP 15 rfl rfl 0 (by decide) (hts (.fieldLink RX10 10 "HookPier" "plan" "LHookPier$Plan;") (List.mem_of_getElem? (i := 8) rfl)) (fun _ h9 => h9) rfl (zat zrX10_nothing_0_ok 11 rfl) ?_
    refine lv_aload_n hx hb (zat zrX10_nothing_0_ok 12 rfl) rfl (lv_at hl 0 rfl) ?_
    refine va_get (D := (dC, dI)) (ci := 7) (v := .ref a6) (C := RX10) (T := TX10) (N := 10) hx hb hts ifX10_nothing_X10 hown hK hP 15 rfl rfl 3 (by decide) (hts (.fieldLink RX10 29 "HookPier" "now" "LHookPier$Now;") (List.mem_of_getElem? (i := 9) rfl)) (fun _ h9 => h9) rfl (zat zrX10_nothing_0_ok 13 rfl) ?_
    refine lv_iconst (v := (-1)) hx hb (zat zrX10_nothing_0_ok 14 rfl) (by decide) ?_
    refine lv_iload_n hx hb (zat zrX10_nothing_0_ok 15 rfl) rfl (lv_at hl 1 rfl) ?_
    refine lv_iload_n hx hb (zat zrX10_nothing_0_ok 16 rfl) rfl (lv_at hl 2 rfl) ?_
    refine lv_iload_n hx hb (zat zrX10_nothing_0_ok 17 rfl) rfl (lv_at hl 3 rfl) ?_
    obtain ⟨o30, eo30⟩ : ∃ o, o = f_X10_question k1 k2 k3 := ⟨_, rfl⟩
    have h := nm_of h o30 eo30
    refine ck_i (wc := []) (wr := (bX4 a6 un kn n_n (bX6 a5 up kp p_p ([(a0, .inr (7, [.ref a5, g12, g13, .ref a6, g14, g15, g16, g17, .int o8.2.1, .int o8.2.2]))])))) hP hD hK hS hA [] [0, 1, 2, 3, 4, 5, 6, 7, 8, 9, 10, 11, 12, 13, 14, 15] rfl rfl (by decide) (by decide) (by decide) (fun hPc hDc => (va_runS (As := [.int k1, .int k2, .int k3]) (rest := [.int (-1), .ref a6, .ref a5]) ⟨hx, hb, hml, hown, hts⟩ (kfX10_question l dC dI k1 k2 k3 H.size o30 eo30.symm) (va_cwS 3 hts gfX10_nothing_2 rfl rfl rfl (by decide +kernel) ⟨(Nat.le_of_ble_eq_true rfl), (Nat.le_of_ble_eq_true rfl)⟩) (PS hPc (hK.sub (tys' := ([])) [] rfl) hDc hN) rfl rfl hl.1 rfl (lv_room (Nat.le_of_ble_eq_true rfl)) (zat zrX10_nothing_0_ok 18 rfl) ⟨(Nat.le_of_ble_eq_true rfl), (Nat.le_of_ble_eq_true rfl)⟩)) (fun r30 _ H locs hw hP hD _ hS => ?_)
    obtain rfl := hw.symm
    obtain ⟨hP, hD⟩ := pd_mk (bX4 a6 un kn n_n (bX6 a5 up kp p_p ([(a0, .inr (7, [.ref a5, g12, g13, .ref a6, g14, g15, g16, g17, .int o8.2.1, .int o8.2.2]))]))) hP hD
    obtain ⟨o33, eo33, h⟩ := bd_of h
    refine ck_l (wc := (bX6 a5 up kp p_p (bX4 a6 un kn n_n []))) (wr := ([(a0, .inr (7, [.ref a5, g12, g13, .ref a6, g14, g15, g16, g17, .int o8.2.1, .int o8.2.2]))])) hP hD hK hS hA [5, 6, 7, 8, 9, 10, 11, 12, 13, 14, 0, 1, 2, 3, 4] [15] rfl rfl (by decide) (by decide) (by decide) (fun hPc hDc => (va_runS (As := [.ref a5, .ref a6, .int (-1), .int o30]) (rest := []) ⟨hx, hb, hml, hown, hts⟩ (kfX5_chance l dC dI a5 a6 (-1 : Int32) o30 up kp un kn p_p n_n H.size o33 eo33) (va_cwS 4 hts gfX10_nothing_3 rfl rfl rfl (by decide +kernel) ⟨(Nat.le_of_ble_eq_true rfl), (Nat.le_of_ble_eq_true rfl)⟩) (PS hPc (hK.sub (tys' := (tX6 kp (tX4 kn ([])))) [0, 1, 2, 3, 4, 5, 6, 7, 8, 9, 10, 11, 12] rfl) hDc hN) rfl rfl hl.1 rfl (lv_room (Nat.le_of_ble_eq_true rfl)) (zat zrX10_nothing_0_ok 19 rfl) ⟨(Nat.le_of_ble_eq_true rfl), (Nat.le_of_ble_eq_true rfl)⟩)) (fun r33 _ H locs hw hP hD _ hS => ?_)
    obtain rfl := hw.symm
    obtain ⟨hP, hD⟩ := pd_mk ((a0, .inr (7, [.ref a5, g12, g13, .ref a6, g14, g15, g16, g17, .int o8.2.1, .int o8.2.2])) :: bX6 a5 up kp p_p (bX4 a6 un kn n_n [])) hP hD
    refine lv_iload hx hb (zat zrX10_nothing_0_ok 20 rfl) (lv_at hl 4 rfl) ?_
    obtain ⟨o38, eo38, h⟩ := bd_of h
    refine ck_l (wc := []) (wr := ((a0, .inr (7, [.ref a5, g12, g13, .ref a6, g14, g15, g16, g17, .int o8.2.1, .int o8.2.2])) :: bX6 a5 up kp p_p (bX4 a6 un kn n_n []))) hP hD hK hS hA [] [0, 1, 2, 3, 4, 5, 6, 7, 8, 9, 10, 11, 12, 13, 14, 15] rfl rfl (by decide) (by decide) (by decide) (fun hPc hDc => (va_runS (As := [.long o33, .int k4]) (rest := []) ⟨hx, hb, hml, hown, hts⟩ (kfX5_term l dC dI o33 k4 H.size o38 eo38) (va_cwS 2 hts gfX10_nothing_4 rfl rfl rfl (by decide +kernel) ⟨(Nat.le_of_ble_eq_true rfl), (Nat.le_of_ble_eq_true rfl)⟩) (PS hPc (hK.sub (tys' := ([])) [] rfl) hDc hN) rfl rfl hl.1 rfl (lv_room (Nat.le_of_ble_eq_true rfl)) (zat zrX10_nothing_0_ok 21 rfl) ⟨(Nat.le_of_ble_eq_true rfl), (Nat.le_of_ble_eq_true rfl)⟩)) (fun r38 _ H locs hw hP hD _ hS => ?_)
    obtain rfl := hw.symm
    obtain ⟨hP, hD⟩ := pd_mk ((a0, .inr (7, [.ref a5, g12, g13, .ref a6, g14, g15, g16, g17, .int o8.2.1, .int o8.2.2])) :: bX6 a5 up kp p_p (bX4 a6 un kn n_n [])) hP hD
    obtain rfl := Option.some.inj h
    obtain ⟨hP9, hD9⟩ := pd_sub ((a0, .inr (7, [.ref a5, g12, g13, .ref a6, g14, g15, g16, g17, .int o8.2.1, .int o8.2.2])) :: bX6 a5 up kp p_p (bX4 a6 un kn n_n [])) [0, 1, 2, 3, 4, 5, 6, 7, 8, 9, 10, 11, 12, 13, 14, 15] hP hD (by decide) rfl
    have hK9 := hK.sub (tys' := []) [] rfl
    rw [hQQ]
    exact W.lret (v := o38) hx hb hr (fun t ht hW => ⟨⟨o38, (), rfl, rfl, by rw [ht]; exact hP9, va_K.moved hW.alike hK9, hD9⟩, hS.F ht⟩) hS.2.2 (zat zrX10_nothing_0_ok 22 rfl)
  · have h := (if_neg c11).symm.trans h
    refine lv_ldc2 hx hb hown (hts (.constantLong RX10 187 (-1)) (List.mem_of_getElem? (i := 17) rfl)) (zat zrX10_nothing_0_ok 8 rfl) ?_
    obtain rfl := Option.some.inj h
    obtain ⟨hP9, hD9⟩ := pd_sub ((a0, .inr (7, [.ref a5, g12, g13, .ref a6, g14, g15, g16, g17, .int o8.2.1, .int o8.2.2])) :: bX6 a5 up kp p_p (bX4 a6 un kn n_n [])) [15, 5, 6, 7, 8, 9, 10, 11, 12, 13, 14, 0, 1, 2, 3, 4] hP hD (by decide) rfl
    have hK9 := hK.sub (tys' := []) [] rfl
    rw [hQQ]
    exact W.lret (v := (-1 : Int64)) hx hb hr (fun t ht hW => ⟨⟨(-1 : Int64), (), rfl, rfl, by rw [ht]; exact hP9, va_K.moved hW.alike hK9, hD9⟩, hS.F ht⟩) hS.2.2 (zat zrX10_nothing_0_ok 9 rfl)
