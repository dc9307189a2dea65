theorem dX5_worthiestQuestion_0 : decode cX5_worthiestQuestion 0 = .ok (.bipush (-2), 2) := by decide +kernel
theorem dX5_worthiestQuestion_10 : decode cX5_worthiestQuestion 10 = .ok (.aload_n 0, 1) := by decide +kernel
theorem dX5_worthiestQuestion_11 : decode cX5_worthiestQuestion 11 = .ok (.invokevirtual 41, 3) := by decide +kernel
theorem dX5_worthiestQuestion_14 : decode cX5_worthiestQuestion 14 = .ok (.if_icmp .ge 44, 3) := by decide +kernel
theorem dX5_worthiestQuestion_17 : decode cX5_worthiestQuestion 17 = .ok (.aload_n 0, 1) := by decide +kernel
theorem dX5_worthiestQuestion_18 : decode cX5_worthiestQuestion 18 = .ok (.iload 5, 2) := by decide +kernel
theorem dX5_worthiestQuestion_2 : decode cX5_worthiestQuestion 2 = .ok (.istore_n 2, 1) := by decide +kernel
theorem dX5_worthiestQuestion_20 : decode cX5_worthiestQuestion 20 = .ok (.invokevirtual 45, 3) := by decide +kernel
theorem dX5_worthiestQuestion_23 : decode cX5_worthiestQuestion 23 = .ok (.ifCond .eq 13, 3) := by decide +kernel
theorem dX5_worthiestQuestion_26 : decode cX5_worthiestQuestion 26 = .ok (.aload_n 0, 1) := by decide +kernel
theorem dX5_worthiestQuestion_27 : decode cX5_worthiestQuestion 27 = .ok (.aload_n 1, 1) := by decide +kernel
theorem dX5_worthiestQuestion_28 : decode cX5_worthiestQuestion 28 = .ok (.iload 5, 2) := by decide +kernel
theorem dX5_worthiestQuestion_3 : decode cX5_worthiestQuestion 3 = .ok (.lconst 0, 1) := by decide +kernel
theorem dX5_worthiestQuestion_30 : decode cX5_worthiestQuestion 30 = .ok (.invokestatic 49, 3) := by decide +kernel
theorem dX5_worthiestQuestion_33 : decode cX5_worthiestQuestion 33 = .ok (.goto 4, 3) := by decide +kernel
theorem dX5_worthiestQuestion_36 : decode cX5_worthiestQuestion 36 = .ok (.lconst 0, 1) := by decide +kernel
theorem dX5_worthiestQuestion_37 : decode cX5_worthiestQuestion 37 = .ok (.lstore 6, 2) := by decide +kernel
theorem dX5_worthiestQuestion_39 : decode cX5_worthiestQuestion 39 = .ok (.lload 6, 2) := by decide +kernel
theorem dX5_worthiestQuestion_4 : decode cX5_worthiestQuestion 4 = .ok (.lstore_n 3, 1) := by decide +kernel
theorem dX5_worthiestQuestion_41 : decode cX5_worthiestQuestion 41 = .ok (.lload_n 3, 1) := by decide +kernel
theorem dX5_worthiestQuestion_42 : decode cX5_worthiestQuestion 42 = .ok (.lcmp, 1) := by decide +kernel
theorem dX5_worthiestQuestion_43 : decode cX5_worthiestQuestion 43 = .ok (.ifCond .le 9, 3) := by decide +kernel
theorem dX5_worthiestQuestion_46 : decode cX5_worthiestQuestion 46 = .ok (.lload 6, 2) := by decide +kernel
theorem dX5_worthiestQuestion_48 : decode cX5_worthiestQuestion 48 = .ok (.lstore_n 3, 1) := by decide +kernel
theorem dX5_worthiestQuestion_49 : decode cX5_worthiestQuestion 49 = .ok (.iload 5, 2) := by decide +kernel
theorem dX5_worthiestQuestion_5 : decode cX5_worthiestQuestion 5 = .ok (.iconst 0, 1) := by decide +kernel
theorem dX5_worthiestQuestion_51 : decode cX5_worthiestQuestion 51 = .ok (.istore_n 2, 1) := by decide +kernel
theorem dX5_worthiestQuestion_52 : decode cX5_worthiestQuestion 52 = .ok (.iinc 5 1, 3) := by decide +kernel
theorem dX5_worthiestQuestion_55 : decode cX5_worthiestQuestion 55 = .ok (.goto (-47), 3) := by decide +kernel
theorem dX5_worthiestQuestion_58 : decode cX5_worthiestQuestion 58 = .ok (.iload_n 2, 1) := by decide +kernel
theorem dX5_worthiestQuestion_59 : decode cX5_worthiestQuestion 59 = .ok (.ireturn, 1) := by decide +kernel
theorem dX5_worthiestQuestion_6 : decode cX5_worthiestQuestion 6 = .ok (.istore 5, 2) := by decide +kernel
theorem dX5_worthiestQuestion_8 : decode cX5_worthiestQuestion 8 = .ok (.iload 5, 2) := by decide +kernel
def vfX5_worthiestQuestion : List Cond := .code yX5_worthiestQuestion cX5_worthiestQuestion 8 (some .int) :: ([.methodLink RX5 41 yX6_questionBound, .instanceMethod yX6_questionBound, .selects RX6 yX6_questionBound yX6_questionBound, .initialized RX6, .code yX6_questionBound cX6_questionBound 1 (some .int), .fieldLink RX6 9 "HookPier$Plan" "spots" "I", .methodLink RX5 45 yX6_hasQuestion, .instanceMethod yX6_hasQuestion, .selects RX6 yX6_hasQuestion yX6_hasQuestion, .code yX6_hasQuestion cX6_hasQuestion 2 (some .boolean), .code yX10_spotOf cX10_spotOf 1 (some .int), .initialized RX10, .static yX10_spotOf, .methodLink RX6 76 yX6_hasSpot, .instanceMethod yX6_hasSpot, .selects RX6 yX6_hasSpot yX6_hasSpot, .code yX6_hasSpot cX6_hasSpot 2 (some .boolean), .code yX10_within cX10_within 3 (some .boolean), .static yX10_within, .code yX10_fathomsOf cX10_fathomsOf 1 (some .int), .static yX10_fathomsOf, .fieldLink RX6 15 "HookPier$Plan" "deep" "I", .code yX10_baitOf cX10_baitOf 1 (some .int), .static yX10_baitOf, .methodLink RX6 86 yX6_hasBait, .instanceMethod yX6_hasBait, .selects RX6 yX6_hasBait yX6_hasBait, .code yX6_hasBait cX6_hasBait 2 (some .boolean), .fieldLink RX6 24 "HookPier$Plan" "baits" "I", .methodLink RX5 49 yX5_meanWorth, .static yX5_meanWorth, .initialized RX5, .code yX5_meanWorth cX5_meanWorth 6 (some .long), .fieldLink RX5 11 "HookPier$Plan" "answers" "I", .fieldLink RX5 29 "HookPier$Plan" "kind" "[I", .fieldLink RX5 32 "HookPier$Plan" "told" "[I", .methodLink RX5 35 yX5_chance, .static yX5_chance, .code yX5_chance cX5_chance 9 (some .long), .constantLong RX5 9 (1000000000000), .fieldLink RX5 17 "HookPier$Now" "stage" "[I", .constantLong RX5 23 (100), .methodLink RX5 25 yX6_wishFor, .instanceMethod yX6_wishFor, .selects RX6 yX6_wishFor yX6_wishFor, .code yX6_wishFor cX6_wishFor 3 (some .int), .fieldLink RX6 52 "HookPier$Plan" "hunger" "[I", .methodLink RX6 94 yX6_wishBy, .instanceMethod yX6_wishBy, .selects RX6 yX6_wishBy yX6_wishBy, .code yX6_wishBy cX6_wishBy 5 (some .int), .fieldLink RX6 46 "HookPier$Plan" "at" "[I", .methodLink RX6 89 Lib.Math.abs.name, .static Lib.Math.abs.name, .initialized "java/lang/Math", .code Lib.Math.abs.name Lib.Math.abs.code 1 (some .int), .fieldLink RX6 43 "HookPier$Plan" "kind" "[I", .methodLink RX6 98 Lib.Math.min.name, .static Lib.Math.min.name, .code Lib.Math.min.name Lib.Math.min.code 2 (some .int), .methodLink RX6 102 Lib.Math.max.name, .static Lib.Math.max.name, .code Lib.Math.max.name Lib.Math.max.code 2 (some .int), .fieldLink RX6 49 "HookPier$Plan" "depth" "[I", .fieldLink RX6 55 "HookPier$Plan" "likes" "[I"] ++ wsX60 ++ wsX40)
theorem ifX5_worthiestQuestion_X6 : ∀ w ∈ wsX60, w ∈ vfX5_worthiestQuestion := fun _ h => List.mem_cons_of_mem _ (List.mem_append_left _ (List.mem_append_right _ h))
theorem ifX5_worthiestQuestion_X4 : ∀ w ∈ wsX40, w ∈ vfX5_worthiestQuestion := fun _ h => List.mem_cons_of_mem _ (List.mem_append_right _ h)
set_option maxRecDepth 20000 in
theorem gfX5_worthiestQuestion_0 : GoodIn vfX5_worthiestQuestion (wsV RX5 41 RX6 yX6_questionBound vfX6_questionBound) := goodIn_app (goodIn_r [.methodLink RX5 41 yX6_questionBound, .instanceMethod yX6_questionBound, .selects RX6 yX6_questionBound yX6_questionBound, .initialized RX6] [1, 2, 3, 4] (by decide +kernel) (by decide +kernel)) (goodIn_ca (goodIn_r (.code yX6_questionBound cX6_questionBound 1 (some .int) :: [.fieldLink RX6 9 "HookPier$Plan" "spots" "I"]) [5, 6] (by decide +kernel) (by decide +kernel) : GoodIn vfX5_worthiestQuestion (.code yX6_questionBound cX6_questionBound 1 (some .int) :: [.fieldLink RX6 9 "HookPier$Plan" "spots" "I"])) (goodIn_sub ifX5_worthiestQuestion_X6 (by decide +kernel)))
set_option maxRecDepth 20000 in
theorem gfX5_worthiestQuestion_1 : GoodIn vfX5_worthiestQuestion (wsV RX5 45 RX6 yX6_hasQuestion vfX6_hasQuestion) := goodIn_app (goodIn_r [.methodLink RX5 45 yX6_hasQuestion, .instanceMethod yX6_hasQuestion, .selects RX6 yX6_hasQuestion yX6_hasQuestion, .initialized RX6] [7, 8, 9, 4] (by decide +kernel) (by decide +kernel)) (goodIn_ca (goodIn_r (.code yX6_hasQuestion cX6_hasQuestion 2 (some .boolean) :: [.code yX10_spotOf cX10_spotOf 1 (some .int), .initialized RX10, .static yX10_spotOf, .methodLink RX6 76 yX6_hasSpot, .instanceMethod yX6_hasSpot, .selects RX6 yX6_hasSpot yX6_hasSpot, .initialized RX6, .code yX6_hasSpot cX6_hasSpot 2 (some .boolean), .fieldLink RX6 9 "HookPier$Plan" "spots" "I", .code yX10_within cX10_within 3 (some .boolean), .static yX10_within, .code yX10_fathomsOf cX10_fathomsOf 1 (some .int), .static yX10_fathomsOf, .fieldLink RX6 15 "HookPier$Plan" "deep" "I", .code yX10_baitOf cX10_baitOf 1 (some .int), .static yX10_baitOf, .methodLink RX6 86 yX6_hasBait, .instanceMethod yX6_hasBait, .selects RX6 yX6_hasBait yX6_hasBait, .code yX6_hasBait cX6_hasBait 2 (some .boolean), .fieldLink RX6 24 "HookPier$Plan" "baits" "I"]) [10, 11, 12, 13, 14, 15, 16, 4, 17, 6, 18, 19, 20, 21, 22, 23, 24, 25, 26, 27, 28, 29] (by decide +kernel) (by decide +kernel) : GoodIn vfX5_worthiestQuestion (.code yX6_hasQuestion cX6_hasQuestion 2 (some .boolean) :: [.code yX10_spotOf cX10_spotOf 1 (some .int), .initialized RX10, .static yX10_spotOf, .methodLink RX6 76 yX6_hasSpot, .instanceMethod yX6_hasSpot, .selects RX6 yX6_hasSpot yX6_hasSpot, .initialized RX6, .code yX6_hasSpot cX6_hasSpot 2 (some .boolean), .fieldLink RX6 9 "HookPier$Plan" "spots" "I", .code yX10_within cX10_within 3 (some .boolean), .static yX10_within, .code yX10_fathomsOf cX10_fathomsOf 1 (some .int), .static yX10_fathomsOf, .fieldLink RX6 15 "HookPier$Plan" "deep" "I", .code yX10_baitOf cX10_baitOf 1 (some .int), .static yX10_baitOf, .methodLink RX6 86 yX6_hasBait, .instanceMethod yX6_hasBait, .selects RX6 yX6_hasBait yX6_hasBait, .code yX6_hasBait cX6_hasBait 2 (some .boolean), .fieldLink RX6 24 "HookPier$Plan" "baits" "I"])) (goodIn_sub ifX5_worthiestQuestion_X6 (by decide +kernel)))
set_option maxRecDepth 20000 in
theorem gfX5_worthiestQuestion_2 : GoodIn vfX5_worthiestQuestion (va_wsS RX5 49 yX5_meanWorth vfX5_meanWorth) := goodIn_app (goodIn_r [.methodLink RX5 49 yX5_meanWorth, .static yX5_meanWorth, .initialized RX5] [30, 31, 32] (by decide +kernel) (by decide +kernel)) (goodIn_ca (goodIn_ca (goodIn_r (.code yX5_meanWorth cX5_meanWorth 6 (some .long) :: [.fieldLink RX5 11 "HookPier$Plan" "answers" "I", .fieldLink RX5 29 "HookPier$Plan" "kind" "[I", .fieldLink RX5 32 "HookPier$Plan" "told" "[I", .methodLink RX5 35 yX5_chance, .static yX5_chance, .initialized RX5, .code yX5_chance cX5_chance 9 (some .long), .constantLong RX5 9 (1000000000000), .fieldLink RX5 17 "HookPier$Now" "stage" "[I", .constantLong RX5 23 (100), .methodLink RX5 25 yX6_wishFor, .instanceMethod yX6_wishFor, .selects RX6 yX6_wishFor yX6_wishFor, .initialized RX6, .code yX6_wishFor cX6_wishFor 3 (some .int), .fieldLink RX6 52 "HookPier$Plan" "hunger" "[I", .methodLink RX6 94 yX6_wishBy, .instanceMethod yX6_wishBy, .selects RX6 yX6_wishBy yX6_wishBy, .code yX6_wishBy cX6_wishBy 5 (some .int), .code yX10_spotOf cX10_spotOf 1 (some .int), .initialized RX10, .static yX10_spotOf, .fieldLink RX6 46 "HookPier$Plan" "at" "[I", .methodLink RX6 89 Lib.Math.abs.name, .static Lib.Math.abs.name, .initialized "java/lang/Math", .code Lib.Math.abs.name Lib.Math.abs.code 1 (some .int), .fieldLink RX6 43 "HookPier$Plan" "kind" "[I", .methodLink RX6 98 Lib.Math.min.name, .static Lib.Math.min.name, .code Lib.Math.min.name Lib.Math.min.code 2 (some .int), .methodLink RX6 102 Lib.Math.max.name, .static Lib.Math.max.name, .code Lib.Math.max.name Lib.Math.max.code 2 (some .int), .code yX10_fathomsOf cX10_fathomsOf 1 (some .int), .static yX10_fathomsOf, .fieldLink RX6 49 "HookPier$Plan" "depth" "[I", .fieldLink RX6 55 "HookPier$Plan" "likes" "[I", .code yX10_baitOf cX10_baitOf 1 (some .int), .static yX10_baitOf]) [33, 34, 35, 36, 37, 38, 32, 39, 40, 41, 42, 43, 44, 45, 4, 46, 47, 48, 49, 50, 51, 11, 12, 13, 52, 53, 54, 55, 56, 57, 58, 59, 60, 61, 62, 63, 20, 21, 64, 65, 23, 24] (by decide +kernel) (by decide +kernel) : GoodIn vfX5_worthiestQuestion (.code yX5_meanWorth cX5_meanWorth 6 (some .long) :: [.fieldLink RX5 11 "HookPier$Plan" "answers" "I", .fieldLink RX5 29 "HookPier$Plan" "kind" "[I", .fieldLink RX5 32 "HookPier$Plan" "told" "[I", .methodLink RX5 35 yX5_chance, .static yX5_chance, .initialized RX5, .code yX5_chance cX5_chance 9 (some .long), .constantLong RX5 9 (1000000000000), .fieldLink RX5 17 "HookPier$Now" "stage" "[I", .constantLong RX5 23 (100), .methodLink RX5 25 yX6_wishFor, .instanceMethod yX6_wishFor, .selects RX6 yX6_wishFor yX6_wishFor, .initialized RX6, .code yX6_wishFor cX6_wishFor 3 (some .int), .fieldLink RX6 52 "HookPier$Plan" "hunger" "[I", .methodLink RX6 94 yX6_wishBy, .instanceMethod yX6_wishBy, .selects RX6 yX6_wishBy yX6_wishBy, .code yX6_wishBy cX6_wishBy 5 (some .int), .code yX10_spotOf cX10_spotOf 1 (some .int), .initialized RX10, .static yX10_spotOf, .fieldLink RX6 46 "HookPier$Plan" "at" "[I", .methodLink RX6 89 Lib.Math.abs.name, .static Lib.Math.abs.name, .initialized "java/lang/Math", .code Lib.Math.abs.name Lib.Math.abs.code 1 (some .int), .fieldLink RX6 43 "HookPier$Plan" "kind" "[I", .methodLink RX6 98 Lib.Math.min.name, .static Lib.Math.min.name, .code Lib.Math.min.name Lib.Math.min.code 2 (some .int), .methodLink RX6 102 Lib.Math.max.name, .static Lib.Math.max.name, .code Lib.Math.max.name Lib.Math.max.code 2 (some .int), .code yX10_fathomsOf cX10_fathomsOf 1 (some .int), .static yX10_fathomsOf, .fieldLink RX6 49 "HookPier$Plan" "depth" "[I", .fieldLink RX6 55 "HookPier$Plan" "likes" "[I", .code yX10_baitOf cX10_baitOf 1 (some .int), .static yX10_baitOf])) (goodIn_sub ifX5_worthiestQuestion_X6 (by decide +kernel))) (goodIn_sub ifX5_worthiestQuestion_X4 (by decide +kernel)))
set_option maxHeartbeats 2000000 in
set_option maxRecDepth 100000 in
theorem kfX5_worthiestQuestion (l : Launch) (dC : Nat → ClassId) (dI : Nat → Nat → Nat) (a0 : Nat) (a1 : Nat) (up : Nat → Nat) (kp : Nat → ClassId) (un : Nat → Nat) (kn : Nat → ClassId) (p_p : TX6_p) (n_n : TX4_n) (sz : Nat) (out : Int32) (h : f_X5_worthiestQuestion p_p n_n = some out) : Met l yX5_worthiestQuestion vfX5_worthiestQuestion ({ frames := 5, cells := 0, slots := 0, locals := 120 }) (PC (dC, dI) [.ref a0, .ref a1] sz (bX6 a0 up kp p_p (bX4 a1 un kn n_n [])) (tX6 kp (tX4 kn ([])))) (va_Qi (S := Unit) (fun (r : Int32) _ => r = out) (fun _ t => BC (dC, dI) (va_A (bX6 a0 up kp p_p (bX4 a1 un kn n_n [])) sz) (bX6 a0 up kp p_p (bX4 a1 un kn n_n [])) [] t) (va_A (bX6 a0 up kp p_p (bX4 a1 un kn n_n [])) sz)) 0 0 (va_A (bX6 a0 up kp p_p (bX4 a1 un kn n_n [])) sz) := by
  refine Met.ofW (cc := cX5_worthiestQuestion) (maxL := 8) (ret := (some .int)) (by decide) rfl ?_
  intro p e s m args below meth c s₁ B0 hml hv
  obtain ⟨rfl, hsz, hP, hK, hD0, hN⟩ := hv
  have hx := B0.exec
  have hb := B0.bytes
  have hr := B0.returns
  have hts := atoms_spec (ws := vfX5_worthiestQuestion) B0.pre
  have hown : s.vm.findClass RX5 = some m.cls := findClass_of_methodNamed B0.named
  have hlocks := B0.notSynchronized
  subst hsz
  have hD := hD0.self (sz := s.heap.size)
  generalize hAe : va_A (bX6 a0 up kp p_p (bX4 a1 un kn n_n [])) s.heap.size = A at hD ⊢
  have hA : ∀ q : Nat, s.heap.size ≤ q → A q := fun q h => by rw [← hAe]; exact Or.inr h
  have hS : va_S A s.heap s.heap [] := va_S.rf
  have hP : va_P (dC, dI) vwCl (bX6 a0 up kp p_p (bX4 a1 un kn n_n [])) s.heap := hP
  have hl := lv_entry ([.ref a0, .ref a1]) (n := 8) (Nat.le_of_ble_eq_true rfl)
  rw [lg_entry_eq]
  generalize (lg_sl ([.ref a0, .ref a1]) ++ List.replicate (8 - (lg_sl ([.ref a0, .ref a1])).length) Slot.unset).toArray = ls at hl ⊢
  have hl : lv_has ls 8 [(0, .ref a0), (1, .ref a1)] := hl
  refine W_q (fun QQ hQQ => ?_)
  rw [f_X5_worthiestQuestion] at h
  refine lv_bipush (v := (-2)) hx hb dX5_worthiestQuestion_0 (by decide) ?_
  refine lv_istore_n (lv' := [(2, .int (-2)), (0, .ref a0), (1, .ref a1)]) hx hb dX5_worthiestQuestion_2 rfl hl (by decide) rfl (fun ls hl => ?_)
  refine lv_lconst (v := 0) hx hb dX5_worthiestQuestion_3 (by decide) ?_
  refine lv_lstore_n (lv' := [(3, .long 0), (2, .int (-2)), (0, .ref a0), (1, .ref a1)]) hx hb dX5_worthiestQuestion_4 rfl hl (by decide) rfl (fun ls hl => ?_)
  refine lv_iconst (v := 0) hx hb dX5_worthiestQuestion_5 (by decide) ?_
  refine lv_istore (lv' := [(5, .int 0), (3, .long 0), (2, .int (-2)), (0, .ref a0), (1, .ref a1)]) hx hb dX5_worthiestQuestion_6 hl (by decide) rfl (fun ls hl => ?_)
  have L8 : ∀ (n8 : Nat) (v8_l5 : Int32) (v8_l3 : Int64) (v8_l2 : Int32) (H : Heap) (locs : List Loc) (ls : Array Slot), f_X5_worthiestQuestion_L8 p_p n_n n8 v8_l5 v8_l3 v8_l2 = some out → va_P (dC, dI) vwCl (bX6 a0 up kp p_p (bX4 a1 un kn n_n [])) H → va_D A (bX6 a0 up kp p_p (bX4 a1 un kn n_n [])) → va_S A s.heap H locs → lv_has ls 8 [(5, .int v8_l5), (3, .long v8_l3), (2, .int v8_l2), (0, .ref a0), (1, .ref a1)] → W p l e (headSpec vfX5_worthiestQuestion { frames := 5, cells := 0, slots := 0, locals := 120 }).room s m ([.ref a0, .ref a1]).toArray below meth c H locs 0 0 QQ (F0 m 8 ls []) := by
    intro n8
    induction n8 with
    | zero =>
      intro v8_l5 v8_l3 v8_l2 H locs ls h  _ _ _ _
      rw [f_X5_worthiestQuestion_L8] at h
      cases h
    | succ n8 ih8 =>
      intro v8_l5 v8_l3 v8_l2 H locs ls h  hP hD hS hl
      rw [f_X5_worthiestQuestion_L8] at h
      refine lv_iload hx hb dX5_worthiestQuestion_8 (lv_at hl 0 rfl) ?_
      refine lv_aload_n hx hb dX5_worthiestQuestion_10 rfl (lv_at hl 3 rfl) ?_
      obtain ⟨o11, eo11⟩ : ∃ o, o = f_X6_questionBound p_p := ⟨_, rfl⟩
      have h := nm_of h o11 eo11
      refine cl_i (wc := (bX6 a0 up kp p_p [])) (wr := (bX4 a1 un kn n_n [])) (va_runV (As := []) (rest := [.int v8_l5]) ⟨hx, hb, hml, hown, hts⟩ (kfX6_questionBound l dC dI a0 up kp p_p H.size o11 eo11.symm) (cwV 0 hts gfX5_worthiestQuestion_0 rfl rfl rfl (by decide +kernel) ⟨(Nat.le_of_ble_eq_true rfl), (Nat.le_of_ble_eq_true rfl)⟩) (PV (hP.sub (ws' := (bX6 a0 up kp p_p [])) [0, 1, 2, 3, 4, 5, 6, 7, 8, 9] rfl) (hK.sub (tys' := (tX6 kp ([]))) [0, 1, 2, 3, 4, 5, 6, 7, 8] rfl) (hD.sub (ws' := (bX6 a0 up kp p_p [])) [0, 1, 2, 3, 4, 5, 6, 7, 8, 9] (by decide) rfl) hN 0 rfl rfl) rfl rfl hl.1 rfl (lv_room (Nat.le_of_ble_eq_true rfl)) dX5_worthiestQuestion_11 ⟨(Nat.le_of_ble_eq_true rfl), (Nat.le_of_ble_eq_true rfl)⟩) hP hD hK hS hA [0, 1, 2, 3, 4, 5, 6, 7, 8, 9] [10, 11, 12, 13, 14] rfl rfl (by decide) (by decide) (fun r11 _ H locs hw hP hD _ hS => ?_)
      obtain rfl := hw.symm
      have hP : va_P (dC, dI) vwCl (bX4 a1 un kn n_n (bX6 a0 up kp p_p [])) H := hP
      have hD : va_D A (bX4 a1 un kn n_n (bX6 a0 up kp p_p [])) := hD
      refine lv_icmp_ge (tgt := 58) hx hb dX5_worthiestQuestion_14 (by decide) (fun c14 => ?_) (fun c14 => ?_)
      · have h := (if_pos c14).symm.trans h
        refine lv_iload_n hx hb dX5_worthiestQuestion_58 rfl (lv_at hl 2 rfl) ?_
        obtain rfl := Option.some.inj h
        have hP9 := hP.sub (ws' := (bX6 a0 up kp p_p (bX4 a1 un kn n_n []))) [5, 6, 7, 8, 9, 10, 11, 12, 13, 14, 0, 1, 2, 3, 4] rfl
        have hD9 := hD.sub (ws' := (bX6 a0 up kp p_p (bX4 a1 un kn n_n []))) [5, 6, 7, 8, 9, 10, 11, 12, 13, 14, 0, 1, 2, 3, 4] (by decide) rfl
        have hK9 := hK.sub (tys' := []) [] rfl
        rw [hQQ]
        exact W.iret (v := v8_l2) hx hb hr (fun t ht hW => ⟨⟨v8_l2, (), rfl, rfl, by rw [ht]; exact hP9, va_K.moved hW.alike hK9, hD9⟩, hS.F ht⟩) hS.2.2 dX5_worthiestQuestion_59
      · have h := (if_neg c14).symm.trans h
        refine lv_aload_n hx hb dX5_worthiestQuestion_17 rfl (lv_at hl 3 rfl) ?_
        refine lv_iload hx hb dX5_worthiestQuestion_18 (lv_at hl 0 rfl) ?_
        obtain ⟨o20, eo20⟩ : ∃ o, o = f_X6_hasQuestion v8_l5 p_p := ⟨_, rfl⟩
        have h := nm_of h o20 eo20
        refine cl_i (wc := (bX6 a0 up kp p_p [])) (wr := (bX4 a1 un kn n_n [])) (va_runV (As := [.int v8_l5]) (rest := []) ⟨hx, hb, hml, hown, hts⟩ (kfX6_hasQuestion l dC dI a0 v8_l5 up kp p_p H.size o20 eo20.symm) (cwV 1 hts gfX5_worthiestQuestion_1 rfl rfl rfl (by decide +kernel) ⟨(Nat.le_of_ble_eq_true rfl), (Nat.le_of_ble_eq_true rfl)⟩) (PV (hP.sub (ws' := (bX6 a0 up kp p_p [])) [5, 6, 7, 8, 9, 10, 11, 12, 13, 14] rfl) (hK.sub (tys' := (tX6 kp ([]))) [0, 1, 2, 3, 4, 5, 6, 7, 8] rfl) (hD.sub (ws' := (bX6 a0 up kp p_p [])) [5, 6, 7, 8, 9, 10, 11, 12, 13, 14] (by decide) rfl) hN 0 rfl rfl) rfl rfl hl.1 rfl (lv_room (Nat.le_of_ble_eq_true rfl)) dX5_worthiestQuestion_20 ⟨(Nat.le_of_ble_eq_true rfl), (Nat.le_of_ble_eq_true rfl)⟩) hP hD hK hS hA [5, 6, 7, 8, 9, 10, 11, 12, 13, 14] [0, 1, 2, 3, 4] rfl rfl (by decide) (by decide) (fun r20 _ H locs hw hP hD _ hS => ?_)
        obtain ⟨hw, br20⟩ := hw
        obtain rfl := hw.symm
        have hP : va_P (dC, dI) vwCl (bX4 a1 un kn n_n (bX6 a0 up kp p_p [])) H := hP
        have hD : va_D A (bX4 a1 un kn n_n (bX6 a0 up kp p_p [])) := hD
        have J37 : ∀ (v37_t0 : Int64) (H : Heap) (locs : List Loc) (ls : Array Slot), f_X5_worthiestQuestion_J37 (f_X5_worthiestQuestion_L8 p_p n_n n8) v8_l2 v8_l3 v8_l5 v37_t0 = some out → va_P (dC, dI) vwCl (bX4 a1 un kn n_n (bX6 a0 up kp p_p [])) H → va_D A (bX4 a1 un kn n_n (bX6 a0 up kp p_p [])) → va_S A s.heap H locs → lv_has ls 8 [(5, .int v8_l5), (3, .long v8_l3), (2, .int v8_l2), (0, .ref a0), (1, .ref a1)] → W p l e (headSpec vfX5_worthiestQuestion { frames := 5, cells := 0, slots := 0, locals := 120 }).room s m ([.ref a0, .ref a1]).toArray below meth c H locs 0 0 QQ (F0 m 37 ls [.long v37_t0]) := by
          intro v37_t0 H locs ls h  hP hD hS hl
          rw [f_X5_worthiestQuestion_J37] at h
          refine lv_lstore (lv' := [(6, .long v37_t0), (5, .int v8_l5), (3, .long v8_l3), (2, .int v8_l2), (0, .ref a0), (1, .ref a1)]) hx hb dX5_worthiestQuestion_37 hl (by decide) rfl (fun ls hl => ?_)
          refine lv_lload hx hb dX5_worthiestQuestion_39 (lv_at hl 0 rfl) ?_
          refine lv_lload_n hx hb dX5_worthiestQuestion_41 rfl (lv_at hl 2 rfl) ?_
          refine W.lcmp hx hb dX5_worthiestQuestion_42 ?_
          have J52 : ∀ (v52_l3 : Int64) (v52_l2 : Int32) (H : Heap) (locs : List Loc) (ls : Array Slot), f_X5_worthiestQuestion_J52 (f_X5_worthiestQuestion_L8 p_p n_n n8) v8_l5 v52_l3 v52_l2 = some out → va_P (dC, dI) vwCl (bX4 a1 un kn n_n (bX6 a0 up kp p_p [])) H → va_D A (bX4 a1 un kn n_n (bX6 a0 up kp p_p [])) → va_S A s.heap H locs → lv_has ls 8 [(5, .int v8_l5), (3, .long v52_l3), (2, .int v52_l2), (0, .ref a0), (1, .ref a1)] → W p l e (headSpec vfX5_worthiestQuestion { frames := 5, cells := 0, slots := 0, locals := 120 }).room s m ([.ref a0, .ref a1]).toArray below meth c H locs 0 0 QQ (F0 m 52 ls []) := by
            intro v52_l3 v52_l2 H locs ls h  hP hD hS hl
            rw [f_X5_worthiestQuestion_J52] at h
            refine lv_iinc (v := (v8_l5 + (1 : Int32))) (lv' := [(5, .int (v8_l5 + (1 : Int32))), (3, .long v52_l3), (2, .int v52_l2), (0, .ref a0), (1, .ref a1)]) hx hb dX5_worthiestQuestion_52 hl (k := 0) rfl rfl (by decide) rfl (fun ls hl => ?_)
            refine lv_goto (tgt := 8) hx hb dX5_worthiestQuestion_55 (by decide) ?_
            exact ih8 (v8_l5 + (1 : Int32)) v52_l3 v52_l2 H _ ls h  (hP.sub (ws' := (bX6 a0 up kp p_p (bX4 a1 un kn n_n []))) [5, 6, 7, 8, 9, 10, 11, 12, 13, 14, 0, 1, 2, 3, 4] rfl) (hD.sub (ws' := (bX6 a0 up kp p_p (bX4 a1 un kn n_n []))) [5, 6, 7, 8, 9, 10, 11, 12, 13, 14, 0, 1, 2, 3, 4] (by decide) rfl) hS (lv_sub hl [0, 1, 2, 3, 4] rfl)
          refine lv_if_le (tgt := 52) hx hb dX5_worthiestQuestion_43 (by decide) (fun c43 => ?_) (fun c43 => ?_)
          · have h := (if_pos c43).symm.trans h
            exact J52 v8_l3 v8_l2 H _ ls h  hP hD hS (lv_sub hl [1, 2, 3, 4, 5] rfl)
          · have h := (if_neg c43).symm.trans h
            refine lv_lload hx hb dX5_worthiestQuestion_46 (lv_at hl 0 rfl) ?_
            refine lv_lstore_n (lv' := [(3, .long v37_t0), (6, .long v37_t0), (5, .int v8_l5), (2, .int v8_l2), (0, .ref a0), (1, .ref a1)]) hx hb dX5_worthiestQuestion_48 rfl hl (by decide) rfl (fun ls hl => ?_)
            refine lv_iload hx hb dX5_worthiestQuestion_49 (lv_at hl 2 rfl) ?_
            refine lv_istore_n (lv' := [(2, .int v8_l5), (3, .long v37_t0), (6, .long v37_t0), (5, .int v8_l5), (0, .ref a0), (1, .ref a1)]) hx hb dX5_worthiestQuestion_51 rfl hl (by decide) rfl (fun ls hl => ?_)
            exact J52 v37_t0 v8_l5 H _ ls h  hP hD hS (lv_sub hl [3, 1, 0, 4, 5] rfl)
        refine lv_if_eq (tgt := 36) hx hb dX5_worthiestQuestion_23 (by decide) (fun c23 => ?_) (fun c23 => ?_)
        · have h := (if_pos c23).symm.trans h
          refine lv_lconst (v := 0) hx hb dX5_worthiestQuestion_36 (by decide) ?_
          exact J37 (0 : Int64) H _ ls h  hP hD hS (lv_sub hl [0, 1, 2, 3, 4] rfl)
        · have h := (if_neg c23).symm.trans h
          refine lv_aload_n hx hb dX5_worthiestQuestion_26 rfl (lv_at hl 3 rfl) ?_
          refine lv_aload_n hx hb dX5_worthiestQuestion_27 rfl (lv_at hl 4 rfl) ?_
          refine lv_iload hx hb dX5_worthiestQuestion_28 (lv_at hl 0 rfl) ?_
          obtain ⟨o30, eo30, h⟩ := bd_of h
          refine cl_l (wc := (bX6 a0 up kp p_p (bX4 a1 un kn n_n []))) (wr := []) (va_runS (As := [.ref a0, .ref a1, .int v8_l5]) (rest := []) ⟨hx, hb, hml, hown, hts⟩ (kfX5_meanWorth l dC dI a0 a1 v8_l5 up kp un kn p_p n_n H.size o30 eo30) (va_cwS 3 hts gfX5_worthiestQuestion_2 rfl rfl rfl (by decide +kernel) ⟨(Nat.le_of_ble_eq_true rfl), (Nat.le_of_ble_eq_true rfl)⟩) (PS (hP.sub (ws' := (bX6 a0 up kp p_p (bX4 a1 un kn n_n []))) [5, 6, 7, 8, 9, 10, 11, 12, 13, 14, 0, 1, 2, 3, 4] rfl) (hK.sub (tys' := (tX6 kp (tX4 kn ([])))) [0, 1, 2, 3, 4, 5, 6, 7, 8, 9, 10, 11, 12] rfl) (hD.sub (ws' := (bX6 a0 up kp p_p (bX4 a1 un kn n_n []))) [5, 6, 7, 8, 9, 10, 11, 12, 13, 14, 0, 1, 2, 3, 4] (by decide) rfl) hN) rfl rfl hl.1 rfl (lv_room (Nat.le_of_ble_eq_true rfl)) dX5_worthiestQuestion_30 ⟨(Nat.le_of_ble_eq_true rfl), (Nat.le_of_ble_eq_true rfl)⟩) hP hD hK hS hA [5, 6, 7, 8, 9, 10, 11, 12, 13, 14, 0, 1, 2, 3, 4] [] rfl rfl (by decide) (by decide) (fun r30 _ H locs hw hP hD _ hS => ?_)
          obtain rfl := hw.symm
          have hP : va_P (dC, dI) vwCl (bX6 a0 up kp p_p (bX4 a1 un kn n_n [])) H := hP
          have hD : va_D A (bX6 a0 up kp p_p (bX4 a1 un kn n_n [])) := hD
          refine lv_goto (tgt := 37) hx hb dX5_worthiestQuestion_33 (by decide) ?_
          exact J37 o30 H _ ls h  (hP.sub (ws' := (bX4 a1 un kn n_n (bX6 a0 up kp p_p []))) [10, 11, 12, 13, 14, 0, 1, 2, 3, 4, 5, 6, 7, 8, 9] rfl) (hD.sub (ws' := (bX4 a1 un kn n_n (bX6 a0 up kp p_p []))) [10, 11, 12, 13, 14, 0, 1, 2, 3, 4, 5, 6, 7, 8, 9] (by decide) rfl) hS (lv_sub hl [0, 1, 2, 3, 4] rfl)
  exact L8 FU (0 : Int32) (0 : Int64) (-2 : Int32) s.heap _ ls h  hP hD hS (lv_sub hl [0, 1, 2, 3, 4] rfl)
theorem dX10_best_0 : decode cX10_best 0 = .ok (.aload_n 0, 1) := by decide +kernel
theorem dX10_best_1 : decode cX10_best 1 = .ok (.aload_n 0, 1) := by decide +kernel
theorem dX10_best_11 : decode cX10_best 11 = .ok (.iconst (-1), 1) := by decide +kernel
theorem dX10_best_12 : decode cX10_best 12 = .ok (.ireturn, 1) := by decide +kernel
theorem dX10_best_13 : decode cX10_best 13 = .ok (.aload_n 0, 1) := by decide +kernel
theorem dX10_best_14 : decode cX10_best 14 = .ok (.getfield 10, 3) := by decide +kernel
theorem dX10_best_17 : decode cX10_best 17 = .ok (.aload_n 0, 1) := by decide +kernel
theorem dX10_best_18 : decode cX10_best 18 = .ok (.getfield 29, 3) := by decide +kernel
theorem dX10_best_2 : decode cX10_best 2 = .ok (.invokevirtual 216, 3) := by decide +kernel
theorem dX10_best_21 : decode cX10_best 21 = .ok (.invokestatic 220, 3) := by decide +kernel
theorem dX10_best_24 : decode cX10_best 24 = .ok (.ireturn, 1) := by decide +kernel
theorem dX10_best_5 : decode cX10_best 5 = .ok (.invokevirtual 79, 3) := by decide +kernel
theorem dX10_best_8 : decode cX10_best 8 = .ok (.ifCond .eq 5, 3) := by decide +kernel
def vfX10_best : List Cond := .code yX10_best cX10_best 1 (some .int) :: ([.methodLink RX10 216 yX10_pierTrouble, .instanceMethod yX10_pierTrouble, .selects RX10 yX10_pierTrouble yX10_pierTrouble, .initialized RX10, .code yX10_pierTrouble cX10_pierTrouble 1 (some .int), .fieldLink RX10 10 "HookPier" "plan" "LHookPier$Plan;", .fieldLink RX10 233 "HookPier$Plan" "spots" "I", .methodLink RX10 79 yX10_refused, .instanceMethod yX10_refused, .selects RX10 yX10_refused yX10_refused, .code yX10_refused cX10_refused 2 (some .boolean), .fieldLink RX10 61 "HookPier" "troubleNow" "I", .fieldLink RX10 29 "HookPier" "now" "LHookPier$Now;", .methodLink RX10 220 yX5_worthiestQuestion, .static yX5_worthiestQuestion, .initialized RX5, .code yX5_worthiestQuestion cX5_worthiestQuestion 8 (some .int), .methodLink RX5 41 yX6_questionBound, .instanceMethod yX6_questionBound, .selects RX6 yX6_questionBound yX6_questionBound, .initialized RX6, .code yX6_questionBound cX6_questionBound 1 (some .int), .fieldLink RX6 9 "HookPier$Plan" "spots" "I", .methodLink RX5 45 yX6_hasQuestion, .instanceMethod yX6_hasQuestion, .selects RX6 yX6_hasQuestion yX6_hasQuestion, .code yX6_hasQuestion cX6_hasQuestion 2 (some .boolean), .code yX10_spotOf cX10_spotOf 1 (some .int), .static yX10_spotOf, .methodLink RX6 76 yX6_hasSpot, .instanceMethod yX6_hasSpot, .selects RX6 yX6_hasSpot yX6_hasSpot, .code yX6_hasSpot cX6_hasSpot 2 (some .boolean), .code yX10_within cX10_within 3 (some .boolean), .static yX10_within, .code yX10_fathomsOf cX10_fathomsOf 1 (some .int), .static yX10_fathomsOf, .fieldLink RX6 15 "HookPier$Plan" "deep" "I", .code yX10_baitOf cX10_baitOf 1 (some .int), .static yX10_baitOf, .methodLink RX6 86 yX6_hasBait, .instanceMethod yX6_hasBait, .selects RX6 yX6_hasBait yX6_hasBait, .code yX6_hasBait cX6_hasBait 2 (some .boolean), .fieldLink RX6 24 "HookPier$Plan" "baits" "I", .methodLink RX5 49 yX5_meanWorth, .static yX5_meanWorth, .code yX5_meanWorth cX5_meanWorth 6 (some .long), .fieldLink RX5 11 "HookPier$Plan" "answers" "I", .fieldLink RX5 29 "HookPier$Plan" "kind" "[I", .fieldLink RX5 32 "HookPier$Plan" "told" "[I", .methodLink RX5 35 yX5_chance, .static yX5_chance, .code yX5_chance cX5_chance 9 (some .long), .constantLong RX5 9 (1000000000000), .fieldLink RX5 17 "HookPier$Now" "stage" "[I", .constantLong RX5 23 (100), .methodLink RX5 25 yX6_wishFor, .instanceMethod yX6_wishFor, .selects RX6 yX6_wishFor yX6_wishFor, .code yX6_wishFor cX6_wishFor 3 (some .int), .fieldLink RX6 52 "HookPier$Plan" "hunger" "[I", .methodLink RX6 94 yX6_wishBy, .instanceMethod yX6_wishBy, .selects RX6 yX6_wishBy yX6_wishBy, .code yX6_wishBy cX6_wishBy 5 (some .int), .fieldLink RX6 46 "HookPier$Plan" "at" "[I", .methodLink RX6 89 Lib.Math.abs.name, .static Lib.Math.abs.name, .initialized "java/lang/Math", .code Lib.Math.abs.name Lib.Math.abs.code 1 (some .int), .fieldLink RX6 43 "HookPier$Plan" "kind" "[I", .methodLink RX6 98 Lib.Math.min.name, .static Lib.Math.min.name, .code Lib.Math.min.name Lib.Math.min.code 2 (some .int), .methodLink RX6 102 Lib.Math.max.name, .static Lib.Math.max.name, .code Lib.Math.max.name Lib.Math.max.code 2 (some .int), .fieldLink RX6 49 "HookPier$Plan" "depth" "[I", .fieldLink RX6 55 "HookPier$Plan" "likes" "[I"] ++ wsX100 ++ wsX60 ++ wsX40)
theorem ifX10_best_X10 : ∀ w ∈ wsX100, w ∈ vfX10_best := fun _ h => List.mem_cons_of_mem _ (List.mem_append_left _ (List.mem_append_left _ (List.mem_append_right _ h)))
theorem ifX10_best_X6 : ∀ w ∈ wsX60, w ∈ vfX10_best := fun _ h => List.mem_cons_of_mem _ (List.mem_append_left _ (List.mem_append_right _ h))
theorem ifX10_best_X4 : ∀ w ∈ wsX40, w ∈ vfX10_best := fun _ h => List.mem_cons_of_mem _ (List.mem_append_right _ h)
set_option maxRecDepth 20000 in
theorem gfX10_best_0 : GoodIn vfX10_best (wsV RX10 216 RX10 yX10_pierTrouble vfX10_pierTrouble) := goodIn_app (goodIn_r [.methodLink RX10 216 yX10_pierTrouble, .instanceMethod yX10_pierTrouble, .selects RX10 yX10_pierTrouble yX10_pierTrouble, .initialized RX10] [1, 2, 3, 4] (by decide +kernel) (by decide +kernel)) (goodIn_ca (goodIn_ca (goodIn_r (.code yX10_pierTrouble cX10_pierTrouble 1 (some .int) :: [.fieldLink RX10 10 "HookPier" "plan" "LHookPier$Plan;", .fieldLink RX10 233 "HookPier$Plan" "spots" "I"]) [5, 6, 7] (by decide +kernel) (by decide +kernel) : GoodIn vfX10_best (.code yX10_pierTrouble cX10_pierTrouble 1 (some .int) :: [.fieldLink RX10 10 "HookPier" "plan" "LHookPier$Plan;", .fieldLink RX10 233 "HookPier$Plan" "spots" "I"])) (goodIn_sub ifX10_best_X10 (by decide +kernel))) (goodIn_sub ifX10_best_X6 (by decide +kernel)))
set_option maxRecDepth 20000 in
theorem gfX10_best_1 : GoodIn vfX10_best (wsV RX10 79 RX10 yX10_refused vfX10_refused) := goodIn_app (goodIn_r [.methodLink RX10 79 yX10_refused, .instanceMethod yX10_refused, .selects RX10 yX10_refused yX10_refused, .initialized RX10] [8, 9, 10, 4] (by decide +kernel) (by decide +kernel)) (goodIn_ca (goodIn_r (.code yX10_refused cX10_refused 2 (some .boolean) :: [.fieldLink RX10 61 "HookPier" "troubleNow" "I"]) [11, 12] (by decide +kernel) (by decide +kernel) : GoodIn vfX10_best (.code yX10_refused cX10_refused 2 (some .boolean) :: [.fieldLink RX10 61 "HookPier" "troubleNow" "I"])) (goodIn_sub ifX10_best_X10 (by decide +kernel)))
set_option maxRecDepth 20000 in
theorem gfX10_best_2 : GoodIn vfX10_best (va_wsS RX10 220 yX5_worthiestQuestion vfX5_worthiestQuestion) := goodIn_app (goodIn_r [.methodLink RX10 220 yX5_worthiestQuestion, .static yX5_worthiestQuestion, .initialized RX5] [14, 15, 16] (by decide +kernel) (by decide +kernel)) (goodIn_ca (goodIn_ca (goodIn_r (.code yX5_worthiestQuestion cX5_worthiestQuestion 8 (some .int) :: [.methodLink RX5 41 yX6_questionBound, .instanceMethod yX6_questionBound, .selects RX6 yX6_questionBound yX6_questionBound, .initialized RX6, .code yX6_questionBound cX6_questionBound 1 (some .int), .fieldLink RX6 9 "HookPier$Plan" "spots" "I", .methodLink RX5 45 yX6_hasQuestion, .instanceMethod yX6_hasQuestion, .selects RX6 yX6_hasQuestion yX6_hasQuestion, .code yX6_hasQuestion cX6_hasQuestion 2 (some .boolean), .code yX10_spotOf cX10_spotOf 1 (some .int), .initialized RX10, .static yX10_spotOf, .methodLink RX6 76 yX6_hasSpot, .instanceMethod yX6_hasSpot, .selects RX6 yX6_hasSpot yX6_hasSpot, .code yX6_hasSpot cX6_hasSpot 2 (some .boolean), .code yX10_within cX10_within 3 (some .boolean), .static yX10_within, .code yX10_fathomsOf cX10_fathomsOf 1 (some .int), .static yX10_fathomsOf, .fieldLink RX6 15 "HookPier$Plan" "deep" "I", .code yX10_baitOf cX10_baitOf 1 (some .int), .static yX10_baitOf, .methodLink RX6 86 yX6_hasBait, .instanceMethod yX6_hasBait, .selects RX6 yX6_hasBait yX6_hasBait, .code yX6_hasBait cX6_hasBait 2 (some .boolean), .fieldLink RX6 24 "HookPier$Plan" "baits" "I", .methodLink RX5 49 yX5_meanWorth, .static yX5_meanWorth, .initialized RX5, .code yX5_meanWorth cX5_meanWorth 6 (some .long), .fieldLink RX5 11 "HookPier$Plan" "answers" "I", .fieldLink RX5 29 "HookPier$Plan" "kind" "[I", .fieldLink RX5 32 "HookPier$Plan" "told" "[I", .methodLink RX5 35 yX5_chance, .static yX5_chance, .code yX5_chance cX5_chance 9 (some .long), .constantLong RX5 9 (1000000000000), .fieldLink RX5 17 "HookPier$Now" "stage" "[I", .constantLong RX5 23 (100), .methodLink RX5 25 yX6_wishFor, .instanceMethod yX6_wishFor, .selects RX6 yX6_wishFor yX6_wishFor, .code yX6_wishFor cX6_wishFor 3 (some .int), .fieldLink RX6 52 "HookPier$Plan" "hunger" "[I", .methodLink RX6 94 yX6_wishBy, .instanceMethod yX6_wishBy, .selects RX6 yX6_wishBy yX6_wishBy, .code yX6_wishBy cX6_wishBy 5 (some .int), .fieldLink RX6 46 "HookPier$Plan" "at" "[I", .methodLink RX6 89 Lib.Math.abs.name, .static Lib.Math.abs.name, .initialized "java/lang/Math", .code Lib.Math.abs.name Lib.Math.abs.code 1 (some .int), .fieldLink RX6 43 "HookPier$Plan" "kind" "[I", .methodLink RX6 98 Lib.Math.min.name, .static Lib.Math.min.name, .code Lib.Math.min.name Lib.Math.min.code 2 (some .int), .methodLink RX6 102 Lib.Math.max.name, .static Lib.Math.max.name, .code Lib.Math.max.name Lib.Math.max.code 2 (some .int), .fieldLink RX6 49 "HookPier$Plan" "depth" "[I", .fieldLink RX6 55 "HookPier$Plan" "likes" "[I"]) [17, 18, 19, 20, 21, 22, 23, 24, 25, 26, 27, 28, 4, 29, 30, 31, 32, 33, 34, 35, 36, 37, 38, 39, 40, 41, 42, 43, 44, 45, 46, 47, 16, 48, 49, 50, 51, 52, 53, 54, 55, 56, 57, 58, 59, 60, 61, 62, 63, 64, 65, 66, 67, 68, 69, 70, 71, 72, 73, 74, 75, 76, 77, 78, 79, 80] (by decide +kernel) (by decide +kernel) : GoodIn vfX10_best (.code yX5_worthiestQuestion cX5_worthiestQuestion 8 (some .int) :: [.methodLink RX5 41 yX6_questionBound, .instanceMethod yX6_questionBound, .selects RX6 yX6_questionBound yX6_questionBound, .initialized RX6, .code yX6_questionBound cX6_questionBound 1 (some .int), .fieldLink RX6 9 "HookPier$Plan" "spots" "I", .methodLink RX5 45 yX6_hasQuestion, .instanceMethod yX6_hasQuestion, .selects RX6 yX6_hasQuestion yX6_hasQuestion, .code yX6_hasQuestion cX6_hasQuestion 2 (some .boolean), .code yX10_spotOf cX10_spotOf 1 (some .int), .initialized RX10, .static yX10_spotOf, .methodLink RX6 76 yX6_hasSpot, .instanceMethod yX6_hasSpot, .selects RX6 yX6_hasSpot yX6_hasSpot, .code yX6_hasSpot cX6_hasSpot 2 (some .boolean), .code yX10_within cX10_within 3 (some .boolean), .static yX10_within, .code yX10_fathomsOf cX10_fathomsOf 1 (some .int), .static yX10_fathomsOf, .fieldLink RX6 15 "HookPier$Plan" "deep" "I", .code yX10_baitOf cX10_baitOf 1 (some .int), .static yX10_baitOf, .methodLink RX6 86 yX6_hasBait, .instanceMethod yX6_hasBait, .selects RX6 yX6_hasBait yX6_hasBait, .code yX6_hasBait cX6_hasBait 2 (some .boolean), .fieldLink RX6 24 "HookPier$Plan" "baits" "I", .methodLink RX5 49 yX5_meanWorth, .static yX5_meanWorth, .initialized RX5, .code yX5_meanWorth cX5_meanWorth 6 (some .long), .fieldLink RX5 11 "HookPier$Plan" "answers" "I", .fieldLink RX5 29 "HookPier$Plan" "kind" "[I", .fieldLink RX5 32 "HookPier$Plan" "told" "[I", .methodLink RX5 35 yX5_chance, .static yX5_chance, .code yX5_chance cX5_chance 9 (some .long), .constantLong RX5 9 (1000000000000), .fieldLink RX5 17 "HookPier$Now" "stage" "[I", .constantLong RX5 23 (100), .methodLink RX5 25 yX6_wishFor, .instanceMethod yX6_wishFor, .selects RX6 yX6_wishFor yX6_wishFor, .code yX6_wishFor cX6_wishFor 3 (some .int), .fieldLink RX6 52 "HookPier$Plan" "hunger" "[I", .methodLink RX6 94 yX6_wishBy, .instanceMethod yX6_wishBy, .selects RX6 yX6_wishBy yX6_wishBy, .code yX6_wishBy cX6_wishBy 5 (some .int), .fieldLink RX6 46 "HookPier$Plan" "at" "[I", .methodLink RX6 89 Lib.Math.abs.name, .static Lib.Math.abs.name, .initialized "java/lang/Math", .code Lib.Math.abs.name Lib.Math.abs.code 1 (some .int), .fieldLink RX6 43 "HookPier$Plan" "kind" "[I", .methodLink RX6 98 Lib.Math.min.name, .static Lib.Math.min.name, .code Lib.Math.min.name Lib.Math.min.code 2 (some .int), .methodLink RX6 102 Lib.Math.max.name, .static Lib.Math.max.name, .code Lib.Math.max.name Lib.Math.max.code 2 (some .int), .fieldLink RX6 49 "HookPier$Plan" "depth" "[I", .fieldLink RX6 55 "HookPier$Plan" "likes" "[I"])) (goodIn_sub ifX10_best_X6 (by decide +kernel))) (goodIn_sub ifX10_best_X4 (by decide +kernel)))
set_option maxHeartbeats 2000000 in
set_option maxRecDepth 100000 in
theorem kfX10_best (l : Launch) (dC : Nat → ClassId) (dI : Nat → Nat → Nat) (a0 : Nat) (a1 : Nat) (a2 : Nat) (up : Nat → Nat) (kp : Nat → ClassId) (un : Nat → Nat) (kn : Nat → ClassId) (x_x : TX10_x) (g8 : Value) (g9 : Value) (g10 : Value) (g11 : Value) (g12 : Value) (g13 : Value) (p_p : TX6_p) (n_n : TX4_n) (sz : Nat) (out : (Int32 × TX10_x)) (h : f_X10_best x_x p_p n_n = some out) : Met l yX10_best vfX10_best ({ frames := 6, cells := 0, slots := 0, locals := 147 }) (PC (dC, dI) [.ref a0] sz ((a0, .inr (7, [.ref a1, g8, g9, .ref a2, g10, g11, g12, g13, .int x_x.1, .int x_x.2])) :: bX6 a1 up kp p_p (bX4 a2 un kn n_n [])) (tX6 kp (tX4 kn ([])))) (va_Qi (S := Unit) (fun (r : Int32) _ => r = out.1) (fun _ t => BC (dC, dI) (va_A ((a0, .inr (7, [.ref a1, g8, g9, .ref a2, g10, g11, g12, g13, .int x_x.1, .int x_x.2])) :: bX6 a1 up kp p_p (bX4 a2 un kn n_n [])) sz) ((a0, .inr (7, [.ref a1, g8, g9, .ref a2, g10, g11, g12, g13, .int out.2.1, .int out.2.2])) :: bX6 a1 up kp p_p (bX4 a2 un kn n_n [])) [] t) (va_A ((a0, .inr (7, [.ref a1, g8, g9, .ref a2, g10, g11, g12, g13, .int x_x.1, .int x_x.2])) :: bX6 a1 up kp p_p (bX4 a2 un kn n_n [])) sz)) 0 0 (va_A ((a0, .inr (7, [.ref a1, g8, g9, .ref a2, g10, g11, g12, g13, .int x_x.1, .int x_x.2])) :: bX6 a1 up kp p_p (bX4 a2 un kn n_n [])) sz) := by
  refine Met.ofW (cc := cX10_best) (maxL := 1) (ret := (some .int)) (by decide) rfl ?_
  intro p e s m args below meth c s₁ B0 hml hv
  obtain ⟨rfl, hsz, hP, hK, hD0, hN⟩ := hv
  have hx := B0.exec
  have hb := B0.bytes
  have hr := B0.returns
  have hts := atoms_spec (ws := vfX10_best) B0.pre
  have hown : s.vm.findClass RX10 = some m.cls := findClass_of_methodNamed B0.named
  have hlocks := B0.notSynchronized
  subst hsz
  have hD := hD0.self (sz := s.heap.size)
  generalize hAe : va_A ((a0, .inr (7, [.ref a1, g8, g9, .ref a2, g10, g11, g12, g13, .int x_x.1, .int x_x.2])) :: bX6 a1 up kp p_p (bX4 a2 un kn n_n [])) s.heap.size = A at hD ⊢
  have hA : ∀ q : Nat, s.heap.size ≤ q → A q := fun q h => by rw [← hAe]; exact Or.inr h
  have hS : va_S A s.heap s.heap [] := va_S.rf
  have hP : va_P (dC, dI) vwCl ((a0, .inr (7, [.ref a1, g8, g9, .ref a2, g10, g11, g12, g13, .int x_x.1, .int x_x.2])) :: bX6 a1 up kp p_p (bX4 a2 un kn n_n [])) s.heap := hP
  have hl := lv_entry ([.ref a0]) (n := 1) (Nat.le_of_ble_eq_true rfl)
  rw [lg_entry_eq]
  generalize (lg_sl ([.ref a0]) ++ List.replicate (1 - (lg_sl ([.ref a0])).length) Slot.unset).toArray = ls at hl ⊢
  have hl : lv_has ls 1 [(0, .ref a0)] := hl
  refine W_q (fun QQ hQQ => ?_)
  rw [f_X10_best] at h
  refine lv_aload_n hx hb dX10_best_0 rfl (lv_at hl 0 rfl) ?_
  refine lv_aload_n hx hb dX10_best_1 rfl (lv_at hl 0 rfl) ?_
  obtain ⟨o2, eo2⟩ : ∃ o, o = f_X10_pierTrouble p_p := ⟨_, rfl⟩
  have h := nm_of h o2 eo2
  refine cl_i (wc := ((a0, .inr (7, [.ref a1, g8, g9, .ref a2, g10, g11, g12, g13, .int x_x.1, .int x_x.2])) :: bX6 a1 up kp p_p [])) (wr := (bX4 a2 un kn n_n [])) (va_runV (As := []) (rest := [.ref a0]) ⟨hx, hb, hml, hown, hts⟩ (kfX10_pierTrouble l dC dI a0 a1 up kp (g8) (g9) (.ref a2) (g10) (g11) (g12) (g13) (.int x_x.1) (.int x_x.2) p_p s.heap.size o2 eo2.symm) (cwV 0 hts gfX10_best_0 rfl rfl rfl (by decide +kernel) ⟨(Nat.le_of_ble_eq_true rfl), (Nat.le_of_ble_eq_true rfl)⟩) (PV (hP.sub (ws' := ((a0, .inr (7, [.ref a1, g8, g9, .ref a2, g10, g11, g12, g13, .int x_x.1, .int x_x.2])) :: bX6 a1 up kp p_p [])) [0, 1, 2, 3, 4, 5, 6, 7, 8, 9, 10] rfl) (hK.sub (tys' := (tX6 kp ([]))) [0, 1, 2, 3, 4, 5, 6, 7, 8] rfl) (hD.sub (ws' := ((a0, .inr (7, [.ref a1, g8, g9, .ref a2, g10, g11, g12, g13, .int x_x.1, .int x_x.2])) :: bX6 a1 up kp p_p [])) [0, 1, 2, 3, 4, 5, 6, 7, 8, 9, 10] (by decide) rfl) hN 0 rfl rfl) rfl rfl hl.1 rfl (lv_room (Nat.le_of_ble_eq_true rfl)) dX10_best_2 ⟨(Nat.le_of_ble_eq_true rfl), (Nat.le_of_ble_eq_true rfl)⟩) hP hD hK hS hA [0, 1, 2, 3, 4, 5, 6, 7, 8, 9, 10] [11, 12, 13, 14, 15] rfl rfl (by decide) (by decide) (fun r2 _ H locs hw hP hD _ hS => ?_)
  obtain rfl := hw.symm
  have hP : va_P (dC, dI) vwCl (bX4 a2 un kn n_n ((a0, .inr (7, [.ref a1, g8, g9, .ref a2, g10, g11, g12, g13, .int x_x.1, .int x_x.2])) :: bX6 a1 up kp p_p [])) H := hP
  have hD : va_D A (bX4 a2 un kn n_n ((a0, .inr (7, [.ref a1, g8, g9, .ref a2, g10, g11, g12, g13, .int x_x.1, .int x_x.2])) :: bX6 a1 up kp p_p [])) := hD
  obtain ⟨o5, eo5⟩ : ∃ o, o = f_X10_refused o2 x_x := ⟨_, rfl⟩
  have h := nm_of h o5 eo5
  refine cl_i (wc := ([(a0, .inr (7, [.ref a1, g8, g9, .ref a2, g10, g11, g12, g13, .int x_x.1, .int x_x.2]))])) (wr := (bX4 a2 un kn n_n (bX6 a1 up kp p_p []))) (va_runV (As := [.int o2]) (rest := []) ⟨hx, hb, hml, hown, hts⟩ (kfX10_refused l dC dI a0 o2 x_x (.ref a1) (g8) (g9) (.ref a2) (g10) (g11) (g12) (g13) H.size o5 eo5.symm) (cwV 1 hts gfX10_best_1 rfl rfl rfl (by decide +kernel) ⟨(Nat.le_of_ble_eq_true rfl), (Nat.le_of_ble_eq_true rfl)⟩) (PV (hP.sub (ws' := ([(a0, .inr (7, [.ref a1, g8, g9, .ref a2, g10, g11, g12, g13, .int x_x.1, .int x_x.2]))])) [5] rfl) (hK.sub (tys' := ([])) [] rfl) (hD.sub (ws' := ([(a0, .inr (7, [.ref a1, g8, g9, .ref a2, g10, g11, g12, g13, .int x_x.1, .int x_x.2]))])) [5] (by decide) rfl) hN 0 rfl rfl) rfl rfl hl.1 rfl (lv_room (Nat.le_of_ble_eq_true rfl)) dX10_best_5 ⟨(Nat.le_of_ble_eq_true rfl), (Nat.le_of_ble_eq_true rfl)⟩) hP hD hK hS hA [5] [0, 1, 2, 3, 4, 6, 7, 8, 9, 10, 11, 12, 13, 14, 15] rfl rfl (by decide) (by decide) (fun r5 _ H locs hw hP hD _ hS => ?_)
  obtain ⟨hw, br5⟩ := hw
  obtain rfl := hw
  have hP : va_P (dC, dI) vwCl (bX4 a2 un kn n_n (bX6 a1 up kp p_p ([(a0, .inr (7, [.ref a1, g8, g9, .ref a2, g10, g11, g12, g13, .int o5.2.1, .int o5.2.2]))]))) H := hP
  have hD : va_D A (bX4 a2 un kn n_n (bX6 a1 up kp p_p ([(a0, .inr (7, [.ref a1, g8, g9, .ref a2, g10, g11, g12, g13, .int o5.2.1, .int o5.2.2]))]))) := hD
  refine lv_if_eq (tgt := 13) hx hb dX10_best_8 (by decide) (fun c8 => ?_) (fun c8 => ?_)
  · have h := (if_pos c8).symm.trans h
    refine lv_aload_n hx hb dX10_best_13 rfl (lv_at hl 0 rfl) ?_
    refine va_get (D := (dC, dI)) (ci := 7) (v := .ref a1) (C := RX10) (T := TX10) (N := 10) hx hb hts ifX10_best_X10 hown hK hP 15 rfl rfl 0 (by decide) (hts (.fieldLink RX10 10 "HookPier" "plan" "LHookPier$Plan;") (List.mem_of_getElem? (i := 6) rfl)) (fun _ h9 => h9) rfl dX10_best_14 ?_
    refine lv_aload_n hx hb dX10_best_17 rfl (lv_at hl 0 rfl) ?_
    refine va_get (D := (dC, dI)) (ci := 7) (v := .ref a2) (C := RX10) (T := TX10) (N := 10) hx hb hts ifX10_best_X10 hown hK hP 15 rfl rfl 3 (by decide) (hts (.fieldLink RX10 29 "HookPier" "now" "LHookPier$Now;") (List.mem_of_getElem? (i := 13) rfl)) (fun _ h9 => h9) rfl dX10_best_18 ?_
    obtain ⟨o21, eo21, h⟩ := bd_of h
    refine cl_i (wc := (bX6 a1 up kp p_p (bX4 a2 un kn n_n []))) (wr := ([(a0, .inr (7, [.ref a1, g8, g9, .ref a2, g10, g11, g12, g13, .int o5.2.1, .int o5.2.2]))])) (va_runS (As := [.ref a1, .ref a2]) (rest := []) ⟨hx, hb, hml, hown, hts⟩ (kfX5_worthiestQuestion l dC dI a1 a2 up kp un kn p_p n_n H.size o21 eo21) (va_cwS 2 hts gfX10_best_2 rfl rfl rfl (by decide +kernel) ⟨(Nat.le_of_ble_eq_true rfl), (Nat.le_of_ble_eq_true rfl)⟩) (PS (hP.sub (ws' := (bX6 a1 up kp p_p (bX4 a2 un kn n_n []))) [5, 6, 7, 8, 9, 10, 11, 12, 13, 14, 0, 1, 2, 3, 4] rfl) (hK.sub (tys' := (tX6 kp (tX4 kn ([])))) [0, 1, 2, 3, 4, 5, 6, 7, 8, 9, 10, 11, 12] rfl) (hD.sub (ws' := (bX6 a1 up kp p_p (bX4 a2 un kn n_n []))) [5, 6, 7, 8, 9, 10, 11, 12, 13, 14, 0, 1, 2, 3, 4] (by decide) rfl) hN) rfl rfl hl.1 rfl (lv_room (Nat.le_of_ble_eq_true rfl)) dX10_best_21 ⟨(Nat.le_of_ble_eq_true rfl), (Nat.le_of_ble_eq_true rfl)⟩) hP hD hK hS hA [5, 6, 7, 8, 9, 10, 11, 12, 13, 14, 0, 1, 2, 3, 4] [15] rfl rfl (by decide) (by decide) (fun r21 _ H locs hw hP hD _ hS => ?_)
    obtain rfl := hw.symm
    have hP : va_P (dC, dI) vwCl ((a0, .inr (7, [.ref a1, g8, g9, .ref a2, g10, g11, g12, g13, .int o5.2.1, .int o5.2.2])) :: bX6 a1 up kp p_p (bX4 a2 un kn n_n [])) H := hP
    have hD : va_D A ((a0, .inr (7, [.ref a1, g8, g9, .ref a2, g10, g11, g12, g13, .int o5.2.1, .int o5.2.2])) :: bX6 a1 up kp p_p (bX4 a2 un kn n_n [])) := hD
    obtain rfl := Option.some.inj h
    have hP9 := hP.sub (ws' := ((a0, .inr (7, [.ref a1, g8, g9, .ref a2, g10, g11, g12, g13, .int o5.2.1, .int o5.2.2])) :: bX6 a1 up kp p_p (bX4 a2 un kn n_n []))) [0, 1, 2, 3, 4, 5, 6, 7, 8, 9, 10, 11, 12, 13, 14, 15] rfl
    have hD9 := hD.sub (ws' := ((a0, .inr (7, [.ref a1, g8, g9, .ref a2, g10, g11, g12, g13, .int o5.2.1, .int o5.2.2])) :: bX6 a1 up kp p_p (bX4 a2 un kn n_n []))) [0, 1, 2, 3, 4, 5, 6, 7, 8, 9, 10, 11, 12, 13, 14, 15] (by decide) rfl
    have hK9 := hK.sub (tys' := []) [] rfl
    rw [hQQ]
    exact W.iret (v := o21) hx hb hr (fun t ht hW => ⟨⟨o21, (), rfl, rfl, by rw [ht]; exact hP9, va_K.moved hW.alike hK9, hD9⟩, hS.F ht⟩) hS.2.2 dX10_best_24
  · have h := (if_neg c8).symm.trans h
    refine lv_iconst (v := (-1)) hx hb dX10_best_11 (by decide) ?_
    obtain rfl := Option.some.inj h
    have hP9 := hP.sub (ws' := ((a0, .inr (7, [.ref a1, g8, g9, .ref a2, g10, g11, g12, g13, .int o5.2.1, .int o5.2.2])) :: bX6 a1 up kp p_p (bX4 a2 un kn n_n []))) [15, 5, 6, 7, 8, 9, 10, 11, 12, 13, 14, 0, 1, 2, 3, 4] rfl
    have hD9 := hD.sub (ws' := ((a0, .inr (7, [.ref a1, g8, g9, .ref a2, g10, g11, g12, g13, .int o5.2.1, .int o5.2.2])) :: bX6 a1 up kp p_p (bX4 a2 un kn n_n []))) [15, 5, 6, 7, 8, 9, 10, 11, 12, 13, 14, 0, 1, 2, 3, 4] (by decide) rfl
    have hK9 := hK.sub (tys' := []) [] rfl
    rw [hQQ]
    exact W.iret (v := (-1 : Int32)) hx hb hr (fun t ht hW => ⟨⟨(-1 : Int32), (), rfl, rfl, by rw [ht]; exact hP9, va_K.moved hW.alike hK9, hD9⟩, hS.F ht⟩) hS.2.2 dX10_best_12
theorem dX10_likers_0 : decode cX10_likers 0 = .ok (.iconst 0, 1) := by decide +kernel
theorem dX10_likers_1 : decode cX10_likers 1 = .ok (.istore_n 2, 1) := by decide +kernel
theorem dX10_likers_12 : decode cX10_likers 12 = .ok (.if_icmp .ge 37, 3) := by decide +kernel
theorem dX10_likers_15 : decode cX10_likers 15 = .ok (.aload_n 0, 1) := by decide +kernel
theorem dX10_likers_16 : decode cX10_likers 16 = .ok (.getfield 29, 3) := by decide +kernel
theorem dX10_likers_19 : decode cX10_likers 19 = .ok (.getfield 125, 3) := by decide +kernel
theorem dX10_likers_2 : decode cX10_likers 2 = .ok (.iconst 0, 1) := by decide +kernel
theorem dX10_likers_22 : decode cX10_likers 22 = .ok (.iload_n 3, 1) := by decide +kernel
theorem dX10_likers_23 : decode cX10_likers 23 = .ok (.iaload, 1) := by decide +kernel
theorem dX10_likers_24 : decode cX10_likers 24 = .ok (.ifCond .ne 19, 3) := by decide +kernel
theorem dX10_likers_27 : decode cX10_likers 27 = .ok (.aload_n 0, 1) := by decide +kernel
theorem dX10_likers_28 : decode cX10_likers 28 = .ok (.getfield 10, 3) := by decide +kernel
theorem dX10_likers_3 : decode cX10_likers 3 = .ok (.istore_n 3, 1) := by decide +kernel
theorem dX10_likers_31 : decode cX10_likers 31 = .ok (.getfield 119, 3) := by decide +kernel
theorem dX10_likers_34 : decode cX10_likers 34 = .ok (.iload_n 3, 1) := by decide +kernel
theorem dX10_likers_35 : decode cX10_likers 35 = .ok (.iaload, 1) := by decide +kernel
theorem dX10_likers_36 : decode cX10_likers 36 = .ok (.iload_n 1, 1) := by decide +kernel
theorem dX10_likers_37 : decode cX10_likers 37 = .ok (.if_icmp .ne 6, 3) := by decide +kernel
theorem dX10_likers_4 : decode cX10_likers 4 = .ok (.iload_n 3, 1) := by decide +kernel
theorem dX10_likers_40 : decode cX10_likers 40 = .ok (.iinc 2 1, 3) := by decide +kernel
theorem dX10_likers_43 : decode cX10_likers 43 = .ok (.iinc 3 1, 3) := by decide +kernel
theorem dX10_likers_46 : decode cX10_likers 46 = .ok (.goto (-42), 3) := by decide +kernel
theorem dX10_likers_49 : decode cX10_likers 49 = .ok (.iload_n 2, 1) := by decide +kernel
theorem dX10_likers_5 : decode cX10_likers 5 = .ok (.aload_n 0, 1) := by decide +kernel
theorem dX10_likers_50 : decode cX10_likers 50 = .ok (.ireturn, 1) := by decide +kernel
theorem dX10_likers_6 : decode cX10_likers 6 = .ok (.getfield 10, 3) := by decide +kernel
theorem dX10_likers_9 : decode cX10_likers 9 = .ok (.getfield 96, 3) := by decide +kernel
def vfX10_likers : List Cond := .code yX10_likers cX10_likers 4 (some .int) :: ([.fieldLink RX10 10 "HookPier" "plan" "LHookPier$Plan;", .fieldLink RX10 96 "HookPier$Plan" "answers" "I", .fieldLink RX10 29 "HookPier" "now" "LHookPier$Now;", .fieldLink RX10 125 "HookPier$Now" "stage" "[I", .fieldLink RX10 119 "HookPier$Plan" "likes" "[I"] ++ wsX100 ++ wsX60 ++ wsX40)
theorem ifX10_likers_X10 : ∀ w ∈ wsX100, w ∈ vfX10_likers := fun _ h => List.mem_cons_of_mem _ (List.mem_append_left _ (List.mem_append_left _ (List.mem_append_right _ h)))
theorem ifX10_likers_X6 : ∀ w ∈ wsX60, w ∈ vfX10_likers := fun _ h => List.mem_cons_of_mem _ (List.mem_append_left _ (List.mem_append_right _ h))
theorem ifX10_likers_X4 : ∀ w ∈ wsX40, w ∈ vfX10_likers := fun _ h => List.mem_cons_of_mem _ (List.mem_append_right _ h)
set_option maxHeartbeats 2000000 in
set_option maxRecDepth 100000 in
theorem kfX10_likers (l : Launch) (dC : Nat → ClassId) (dI : Nat → Nat → Nat) (a0 : Nat) (k1 : Int32) (a2 : Nat) (a3 : Nat) (up : Nat → Nat) (kp : Nat → ClassId) (un : Nat → Nat) (kn : Nat → ClassId) (g8 : Value) (g9 : Value) (g10 : Value) (g11 : Value) (g12 : Value) (g13 : Value) (g14 : Value) (g15 : Value) (p_p : TX6_p) (n_n : TX4_n) (sz : Nat) (out : Int32) (h : f_X10_likers k1 p_p n_n = some out) : Met l yX10_likers vfX10_likers ({ frames := 0, cells := 0, slots := 0, locals := 0 }) (PC (dC, dI) [.ref a0, .int k1] sz ((a0, .inr (7, [.ref a2, g8, g9, .ref a3, g10, g11, g12, g13, g14, g15])) :: bX6 a2 up kp p_p (bX4 a3 un kn n_n [])) (tX6 kp (tX4 kn ([])))) (va_Qi (S := Unit) (fun (r : Int32) _ => r = out) (fun _ t => BC (dC, dI) (va_A ((a0, .inr (7, [.ref a2, g8, g9, .ref a3, g10, g11, g12, g13, g14, g15])) :: bX6 a2 up kp p_p (bX4 a3 un kn n_n [])) sz) ((a0, .inr (7, [.ref a2, g8, g9, .ref a3, g10, g11, g12, g13, g14, g15])) :: bX6 a2 up kp p_p (bX4 a3 un kn n_n [])) [] t) (va_A ((a0, .inr (7, [.ref a2, g8, g9, .ref a3, g10, g11, g12, g13, g14, g15])) :: bX6 a2 up kp p_p (bX4 a3 un kn n_n [])) sz)) 0 0 (va_A ((a0, .inr (7, [.ref a2, g8, g9, .ref a3, g10, g11, g12, g13, g14, g15])) :: bX6 a2 up kp p_p (bX4 a3 un kn n_n [])) sz) := by
  refine Met.ofW (cc := cX10_likers) (maxL := 4) (ret := (some .int)) (by decide) rfl ?_
  intro p e s m args below meth c s₁ B0 hml hv
  obtain ⟨rfl, hsz, hP, hK, hD0, hN⟩ := hv
  have hx := B0.exec
  have hb := B0.bytes
  have hr := B0.returns
  have hts := atoms_spec (ws := vfX10_likers) B0.pre
  have hown : s.vm.findClass RX10 = some m.cls := findClass_of_methodNamed B0.named
  have hlocks := B0.notSynchronized
  subst hsz
  have hD := hD0.self (sz := s.heap.size)
  generalize hAe : va_A ((a0, .inr (7, [.ref a2, g8, g9, .ref a3, g10, g11, g12, g13, g14, g15])) :: bX6 a2 up kp p_p (bX4 a3 un kn n_n [])) s.heap.size = A at hD ⊢
  have hA : ∀ q : Nat, s.heap.size ≤ q → A q := fun q h => by rw [← hAe]; exact Or.inr h
  have hS : va_S A s.heap s.heap [] := va_S.rf
  have hP : va_P (dC, dI) vwCl ((a0, .inr (7, [.ref a2, g8, g9, .ref a3, g10, g11, g12, g13, g14, g15])) :: bX6 a2 up kp p_p (bX4 a3 un kn n_n [])) s.heap := hP
  have hl := lv_entry ([.ref a0, .int k1]) (n := 4) (Nat.le_of_ble_eq_true rfl)
  rw [lg_entry_eq]
  generalize (lg_sl ([.ref a0, .int k1]) ++ List.replicate (4 - (lg_sl ([.ref a0, .int k1])).length) Slot.unset).toArray = ls at hl ⊢
  have hl : lv_has ls 4 [(0, .ref a0), (1, .int k1)] := hl
  refine W_q (fun QQ hQQ => ?_)
  rw [f_X10_likers] at h
  refine lv_iconst (v := 0) hx hb dX10_likers_0 (by decide) ?_
  refine lv_istore_n (lv' := [(2, .int 0), (0, .ref a0), (1, .int k1)]) hx hb dX10_likers_1 rfl hl (by decide) rfl (fun ls hl => ?_)
  refine lv_iconst (v := 0) hx hb dX10_likers_2 (by decide) ?_
  refine lv_istore_n (lv' := [(3, .int 0), (2, .int 0), (0, .ref a0), (1, .int k1)]) hx hb dX10_likers_3 rfl hl (by decide) rfl (fun ls hl => ?_)
  have L4 : ∀ (n4 : Nat) (v4_l3 : Int32) (v4_l2 : Int32) (H : Heap) (locs : List Loc) (ls : Array Slot), f_X10_likers_L4 k1 p_p n_n n4 v4_l3 v4_l2 = some out → va_P (dC, dI) vwCl ((a0, .inr (7, [.ref a2, g8, g9, .ref a3, g10, g11, g12, g13, g14, g15])) :: bX6 a2 up kp p_p (bX4 a3 un kn n_n [])) H → va_D A ((a0, .inr (7, [.ref a2, g8, g9, .ref a3, g10, g11, g12, g13, g14, g15])) :: bX6 a2 up kp p_p (bX4 a3 un kn n_n [])) → va_S A s.heap H locs → lv_has ls 4 [(3, .int v4_l3), (2, .int v4_l2), (0, .ref a0), (1, .int k1)] → W p l e (headSpec vfX10_likers { frames := 0, cells := 0, slots := 0, locals := 0 }).room s m ([.ref a0, .int k1]).toArray below meth c H locs 0 0 QQ (F0 m 4 ls []) := by
    intro n4
    induction n4 with
    | zero =>
      intro v4_l3 v4_l2 H locs ls h  _ _ _ _
      rw [f_X10_likers_L4] at h
      cases h
    | succ n4 ih4 =>
      intro v4_l3 v4_l2 H locs ls h  hP hD hS hl
      rw [f_X10_likers_L4] at h
      refine lv_iload_n hx hb dX10_likers_4 rfl (lv_at hl 0 rfl) ?_
      refine lv_aload_n hx hb dX10_likers_5 rfl (lv_at hl 2 rfl) ?_
      refine va_get (D := (dC, dI)) (ci := 7) (v := .ref a2) (C := RX10) (T := TX10) (N := 10) hx hb hts ifX10_likers_X10 hown hK hP 0 rfl rfl 0 (by decide) (hts (.fieldLink RX10 10 "HookPier" "plan" "LHookPier$Plan;") (List.mem_of_getElem? (i := 1) rfl)) (fun _ h9 => h9) rfl dX10_likers_6 ?_
      refine va_get (D := (dC, dI)) (ci := 4) (v := .int p_p.2.2.2.2.2.2.1) (C := RX6) (T := TX6) (N := 18) hx hb hts ifX10_likers_X6 hown hK hP 1 rfl rfl 6 (by decide) (hts (.fieldLink RX10 96 "HookPier$Plan" "answers" "I") (List.mem_of_getElem? (i := 2) rfl)) (fun _ h9 => h9) rfl dX10_likers_9 ?_
      refine lv_icmp_ge (tgt := 49) hx hb dX10_likers_12 (by decide) (fun c12 => ?_) (fun c12 => ?_)
      · have h := (if_pos c12).symm.trans h
        refine lv_iload_n hx hb dX10_likers_49 rfl (lv_at hl 1 rfl) ?_
        obtain rfl := Option.some.inj h
        have hP9 := hP.sub (ws' := ((a0, .inr (7, [.ref a2, g8, g9, .ref a3, g10, g11, g12, g13, g14, g15])) :: bX6 a2 up kp p_p (bX4 a3 un kn n_n []))) [0, 1, 2, 3, 4, 5, 6, 7, 8, 9, 10, 11, 12, 13, 14, 15] rfl
        have hD9 := hD.sub (ws' := ((a0, .inr (7, [.ref a2, g8, g9, .ref a3, g10, g11, g12, g13, g14, g15])) :: bX6 a2 up kp p_p (bX4 a3 un kn n_n []))) [0, 1, 2, 3, 4, 5, 6, 7, 8, 9, 10, 11, 12, 13, 14, 15] (by decide) rfl
        have hK9 := hK.sub (tys' := []) [] rfl
        rw [hQQ]
        exact W.iret (v := v4_l2) hx hb hr (fun t ht hW => ⟨⟨v4_l2, (), rfl, rfl, by rw [ht]; exact hP9, va_K.moved hW.alike hK9, hD9⟩, hS.F ht⟩) hS.2.2 dX10_likers_50
      · have h := (if_neg c12).symm.trans h
        refine lv_aload_n hx hb dX10_likers_15 rfl (lv_at hl 2 rfl) ?_
        refine va_get (D := (dC, dI)) (ci := 7) (v := .ref a3) (C := RX10) (T := TX10) (N := 10) hx hb hts ifX10_likers_X10 hown hK hP 0 rfl rfl 3 (by decide) (hts (.fieldLink RX10 29 "HookPier" "now" "LHookPier$Now;") (List.mem_of_getElem? (i := 3) rfl)) (fun _ h9 => h9) rfl dX10_likers_16 ?_
        refine va_get (D := (dC, dI)) (ci := 3) (v := .ref (un 0)) (C := RX4) (T := TX4) (N := 7) hx hb hts ifX10_likers_X4 hown hK hP 11 rfl rfl 3 (by decide) (hts (.fieldLink RX10 125 "HookPier$Now" "stage" "[I") (List.mem_of_getElem? (i := 4) rfl)) (fun _ h9 => h9) rfl dX10_likers_19 ?_
        refine lv_iload_n hx hb dX10_likers_22 rfl (lv_at hl 0 rfl) ?_
        obtain ⟨hg23, h⟩ := gA_of h
        refine va_iald hx hb hK hP 12 9 rfl rfl hg23 dX10_likers_23 ?_
        have J43 : ∀ (v43_l2 : Int32) (H : Heap) (locs : List Loc) (ls : Array Slot), f_X10_likers_J43 (f_X10_likers_L4 k1 p_p n_n n4) v4_l3 v43_l2 = some out → va_P (dC, dI) vwCl ((a0, .inr (7, [.ref a2, g8, g9, .ref a3, g10, g11, g12, g13, g14, g15])) :: bX6 a2 up kp p_p (bX4 a3 un kn n_n [])) H → va_D A ((a0, .inr (7, [.ref a2, g8, g9, .ref a3, g10, g11, g12, g13, g14, g15])) :: bX6 a2 up kp p_p (bX4 a3 un kn n_n [])) → va_S A s.heap H locs → lv_has ls 4 [(3, .int v4_l3), (2, .int v43_l2), (0, .ref a0), (1, .int k1)] → W p l e (headSpec vfX10_likers { frames := 0, cells := 0, slots := 0, locals := 0 }).room s m ([.ref a0, .int k1]).toArray below meth c H locs 0 0 QQ (F0 m 43 ls []) := by
          intro v43_l2 H locs ls h  hP hD hS hl
          rw [f_X10_likers_J43] at h
          refine lv_iinc (v := (v4_l3 + (1 : Int32))) (lv' := [(3, .int (v4_l3 + (1 : Int32))), (2, .int v43_l2), (0, .ref a0), (1, .int k1)]) hx hb dX10_likers_43 hl (k := 0) rfl rfl (by decide) rfl (fun ls hl => ?_)
          refine lv_goto (tgt := 4) hx hb dX10_likers_46 (by decide) ?_
          exact ih4 (v4_l3 + (1 : Int32)) v43_l2 H _ ls h  hP hD hS (lv_sub hl [0, 1, 2, 3] rfl)
        refine lv_if_ne (tgt := 43) hx hb dX10_likers_24 (by decide) (fun c24 => ?_) (fun c24 => ?_)
        · have h := (if_neg c24).symm.trans h
          exact J43 v4_l2 H _ ls h  hP hD hS (lv_sub hl [0, 1, 2, 3] rfl)
        · have h := (if_pos c24).symm.trans h
          refine lv_aload_n hx hb dX10_likers_27 rfl (lv_at hl 2 rfl) ?_
          refine va_get (D := (dC, dI)) (ci := 7) (v := .ref a2) (C := RX10) (T := TX10) (N := 10) hx hb hts ifX10_likers_X10 hown hK hP 0 rfl rfl 0 (by decide) (hts (.fieldLink RX10 10 "HookPier" "plan" "LHookPier$Plan;") (List.mem_of_getElem? (i := 1) rfl)) (fun _ h9 => h9) rfl dX10_likers_28 ?_
          refine va_get (D := (dC, dI)) (ci := 4) (v := .ref (up 5)) (C := RX6) (T := TX6) (N := 18) hx hb hts ifX10_likers_X6 hown hK hP 1 rfl rfl 14 (by decide) (hts (.fieldLink RX10 119 "HookPier$Plan" "likes" "[I") (List.mem_of_getElem? (i := 5) rfl)) (fun _ h9 => h9) rfl dX10_likers_31 ?_
          refine lv_iload_n hx hb dX10_likers_34 rfl (lv_at hl 0 rfl) ?_
          obtain ⟨hg35, h⟩ := gA_of h
          refine va_iald hx hb hK hP 7 5 rfl rfl hg35 dX10_likers_35 ?_
          refine lv_iload_n hx hb dX10_likers_36 rfl (lv_at hl 3 rfl) ?_
          refine lv_icmp_ne (tgt := 43) hx hb dX10_likers_37 (by decide) (fun c37 => ?_) (fun c37 => ?_)
          · have h := (if_neg c37).symm.trans h
            exact J43 v4_l2 H _ ls h  hP hD hS (lv_sub hl [0, 1, 2, 3] rfl)
          · have h := (if_pos c37).symm.trans h
            refine lv_iinc (v := (v4_l2 + (1 : Int32))) (lv' := [(2, .int (v4_l2 + (1 : Int32))), (3, .int v4_l3), (0, .ref a0), (1, .int k1)]) hx hb dX10_likers_40 hl (k := 1) rfl rfl (by decide) rfl (fun ls hl => ?_)
            exact J43 (v4_l2 + (1 : Int32)) H _ ls h  hP hD hS (lv_sub hl [1, 0, 2, 3] rfl)
  exact L4 FU (0 : Int32) (0 : Int32) s.heap _ ls h  hP hD hS (lv_sub hl [0, 1, 2, 3] rfl)
theorem dX10_bestBait_0 : decode cX10_bestBait 0 = .ok (.aload_n 0, 1) := by decide +kernel
theorem dX10_bestBait_1 : decode cX10_bestBait 1 = .ok (.aload_n 0, 1) := by decide +kernel
theorem dX10_bestBait_11 : decode cX10_bestBait 11 = .ok (.iconst (-1), 1) := by decide +kernel
theorem dX10_bestBait_12 : decode cX10_bestBait 12 = .ok (.ireturn, 1) := by decide +kernel
theorem dX10_bestBait_13 : decode cX10_bestBait 13 = .ok (.iconst 0, 1) := by decide +kernel
theorem dX10_bestBait_14 : decode cX10_bestBait 14 = .ok (.istore_n 1, 1) := by decide +kernel
theorem dX10_bestBait_15 : decode cX10_bestBait 15 = .ok (.iconst 1, 1) := by decide +kernel
theorem dX10_bestBait_16 : decode cX10_bestBait 16 = .ok (.istore_n 2, 1) := by decide +kernel
theorem dX10_bestBait_17 : decode cX10_bestBait 17 = .ok (.iload_n 2, 1) := by decide +kernel
theorem dX10_bestBait_18 : decode cX10_bestBait 18 = .ok (.aload_n 0, 1) := by decide +kernel
theorem dX10_bestBait_19 : decode cX10_bestBait 19 = .ok (.getfield 10, 3) := by decide +kernel
theorem dX10_bestBait_2 : decode cX10_bestBait 2 = .ok (.invokevirtual 216, 3) := by decide +kernel
theorem dX10_bestBait_22 : decode cX10_bestBait 22 = .ok (.getfield 224, 3) := by decide +kernel
theorem dX10_bestBait_25 : decode cX10_bestBait 25 = .ok (.if_icmp .ge 24, 3) := by decide +kernel
theorem dX10_bestBait_28 : decode cX10_bestBait 28 = .ok (.aload_n 0, 1) := by decide +kernel
theorem dX10_bestBait_29 : decode cX10_bestBait 29 = .ok (.iload_n 2, 1) := by decide +kernel
theorem dX10_bestBait_30 : decode cX10_bestBait 30 = .ok (.invokevirtual 227, 3) := by decide +kernel
theorem dX10_bestBait_33 : decode cX10_bestBait 33 = .ok (.aload_n 0, 1) := by decide +kernel
theorem dX10_bestBait_34 : decode cX10_bestBait 34 = .ok (.iload_n 1, 1) := by decide +kernel
theorem dX10_bestBait_35 : decode cX10_bestBait 35 = .ok (.invokevirtual 227, 3) := by decide +kernel
theorem dX10_bestBait_38 : decode cX10_bestBait 38 = .ok (.if_icmp .le 5, 3) := by decide +kernel
theorem dX10_bestBait_41 : decode cX10_bestBait 41 = .ok (.iload_n 2, 1) := by decide +kernel
theorem dX10_bestBait_42 : decode cX10_bestBait 42 = .ok (.istore_n 1, 1) := by decide +kernel
theorem dX10_bestBait_43 : decode cX10_bestBait 43 = .ok (.iinc 2 1, 3) := by decide +kernel
theorem dX10_bestBait_46 : decode cX10_bestBait 46 = .ok (.goto (-29), 3) := by decide +kernel
theorem dX10_bestBait_49 : decode cX10_bestBait 49 = .ok (.iload_n 1, 1) := by decide +kernel
theorem dX10_bestBait_5 : decode cX10_bestBait 5 = .ok (.invokevirtual 79, 3) := by decide +kernel
theorem dX10_bestBait_50 : decode cX10_bestBait 50 = .ok (.ireturn, 1) := by decide +kernel
theorem dX10_bestBait_8 : decode cX10_bestBait 8 = .ok (.ifCond .eq 5, 3) := by decide +kernel
def vfX10_bestBait : List Cond := .code yX10_bestBait cX10_bestBait 3 (some .int) :: ([.methodLink RX10 216 yX10_pierTrouble, .instanceMethod yX10_pierTrouble, .selects RX10 yX10_pierTrouble yX10_pierTrouble, .initialized RX10, .code yX10_pierTrouble cX10_pierTrouble 1 (some .int), .fieldLink RX10 10 "HookPier" "plan" "LHookPier$Plan;", .fieldLink RX10 233 "HookPier$Plan" "spots" "I", .methodLink RX10 79 yX10_refused, .instanceMethod yX10_refused, .selects RX10 yX10_refused yX10_refused, .code yX10_refused cX10_refused 2 (some .boolean), .fieldLink RX10 61 "HookPier" "troubleNow" "I", .fieldLink RX10 224 "HookPier$Plan" "baits" "I", .methodLink RX10 227 yX10_likers, .instanceMethod yX10_likers, .selects RX10 yX10_likers yX10_likers, .code yX10_likers cX10_likers 4 (some .int), .fieldLink RX10 96 "HookPier$Plan" "answers" "I", .fieldLink RX10 29 "HookPier" "now" "LHookPier$Now;", .fieldLink RX10 125 "HookPier$Now" "stage" "[I", .fieldLink RX10 119 "HookPier$Plan" "likes" "[I"] ++ wsX100 ++ wsX60 ++ wsX40)
theorem ifX10_bestBait_X10 : ∀ w ∈ wsX100, w ∈ vfX10_bestBait := fun _ h => List.mem_cons_of_mem _ (List.mem_append_left _ (List.mem_append_left _ (List.mem_append_right _ h)))
theorem ifX10_bestBait_X6 : ∀ w ∈ wsX60, w ∈ vfX10_bestBait := fun _ h => List.mem_cons_of_mem _ (List.mem_append_left _ (List.mem_append_right _ h))
theorem ifX10_bestBait_X4 : ∀ w ∈ wsX40, w ∈ vfX10_bestBait := fun _ h => List.mem_cons_of_mem _ (List.mem_append_right _ h)
set_option maxRecDepth 20000 in
theorem gfX10_bestBait_0 : GoodIn vfX10_bestBait (wsV RX10 216 RX10 yX10_pierTrouble vfX10_pierTrouble) := goodIn_app (goodIn_r [.methodLink RX10 216 yX10_pierTrouble, .instanceMethod yX10_pierTrouble, .selects RX10 yX10_pierTrouble yX10_pierTrouble, .initialized RX10] [1, 2, 3, 4] (by decide +kernel) (by decide +kernel)) (goodIn_ca (goodIn_ca (goodIn_r (.code yX10_pierTrouble cX10_pierTrouble 1 (some .int) :: [.fieldLink RX10 10 "HookPier" "plan" "LHookPier$Plan;", .fieldLink RX10 233 "HookPier$Plan" "spots" "I"]) [5, 6, 7] (by decide +kernel) (by decide +kernel) : GoodIn vfX10_bestBait (.code yX10_pierTrouble cX10_pierTrouble 1 (some .int) :: [.fieldLink RX10 10 "HookPier" "plan" "LHookPier$Plan;", .fieldLink RX10 233 "HookPier$Plan" "spots" "I"])) (goodIn_sub ifX10_bestBait_X10 (by decide +kernel))) (goodIn_sub ifX10_bestBait_X6 (by decide +kernel)))
set_option maxRecDepth 20000 in
theorem gfX10_bestBait_1 : GoodIn vfX10_bestBait (wsV RX10 79 RX10 yX10_refused vfX10_refused) := goodIn_app (goodIn_r [.methodLink RX10 79 yX10_refused, .instanceMethod yX10_refused, .selects RX10 yX10_refused yX10_refused, .initialized RX10] [8, 9, 10, 4] (by decide +kernel) (by decide +kernel)) (goodIn_ca (goodIn_r (.code yX10_refused cX10_refused 2 (some .boolean) :: [.fieldLink RX10 61 "HookPier" "troubleNow" "I"]) [11, 12] (by decide +kernel) (by decide +kernel) : GoodIn vfX10_bestBait (.code yX10_refused cX10_refused 2 (some .boolean) :: [.fieldLink RX10 61 "HookPier" "troubleNow" "I"])) (goodIn_sub ifX10_bestBait_X10 (by decide +kernel)))
set_option maxRecDepth 20000 in
theorem gfX10_bestBait_2 : GoodIn vfX10_bestBait (wsV RX10 227 RX10 yX10_likers vfX10_likers) := goodIn_app (goodIn_r [.methodLink RX10 227 yX10_likers, .instanceMethod yX10_likers, .selects RX10 yX10_likers yX10_likers, .initialized RX10] [14, 15, 16, 4] (by decide +kernel) (by decide +kernel)) (goodIn_ca (goodIn_ca (goodIn_ca (goodIn_r (.code yX10_likers cX10_likers 4 (some .int) :: [.fieldLink RX10 10 "HookPier" "plan" "LHookPier$Plan;", .fieldLink RX10 96 "HookPier$Plan" "answers" "I", .fieldLink RX10 29 "HookPier" "now" "LHookPier$Now;", .fieldLink RX10 125 "HookPier$Now" "stage" "[I", .fieldLink RX10 119 "HookPier$Plan" "likes" "[I"]) [17, 6, 18, 19, 20, 21] (by decide +kernel) (by decide +kernel) : GoodIn vfX10_bestBait (.code yX10_likers cX10_likers 4 (some .int) :: [.fieldLink RX10 10 "HookPier" "plan" "LHookPier$Plan;", .fieldLink RX10 96 "HookPier$Plan" "answers" "I", .fieldLink RX10 29 "HookPier" "now" "LHookPier$Now;", .fieldLink RX10 125 "HookPier$Now" "stage" "[I", .fieldLink RX10 119 "HookPier$Plan" "likes" "[I"])) (goodIn_sub ifX10_bestBait_X10 (by decide +kernel))) (goodIn_sub ifX10_bestBait_X6 (by decide +kernel))) (goodIn_sub ifX10_bestBait_X4 (by decide +kernel)))
set_option maxHeartbeats 2000000 in
set_option maxRecDepth 100000 in
theorem kfX10_bestBait (l : Launch) (dC : Nat → ClassId) (dI : Nat → Nat → Nat) (a0 : Nat) (a1 : Nat) (a2 : Nat) (up : Nat → Nat) (kp : Nat → ClassId) (un : Nat → Nat) (kn : Nat → ClassId) (x_x : TX10_x) (g8 : Value) (g9 : Value) (g10 : Value) (g11 : Value) (g12 : Value) (g13 : Value) (p_p : TX6_p) (n_n : TX4_n) (sz : Nat) (out : (Int32 × TX10_x)) (h : f_X10_bestBait x_x p_p n_n = some out) : Met l yX10_bestBait vfX10_bestBait ({ frames := 1, cells := 0, slots := 0, locals := 23 }) (PC (dC, dI) [.ref a0] sz ((a0, .inr (7, [.ref a1, g8, g9, .ref a2, g10, g11, g12, g13, .int x_x.1, .int x_x.2])) :: bX6 a1 up kp p_p (bX4 a2 un kn n_n [])) (tX6 kp (tX4 kn ([])))) (va_Qi (S := Unit) (fun (r : Int32) _ => r = out.1) (fun _ t => BC (dC, dI) (va_A ((a0, .inr (7, [.ref a1, g8, g9, .ref a2, g10, g11, g12, g13, .int x_x.1, .int x_x.2])) :: bX6 a1 up kp p_p (bX4 a2 un kn n_n [])) sz) ((a0, .inr (7, [.ref a1, g8, g9, .ref a2, g10, g11, g12, g13, .int out.2.1, .int out.2.2])) :: bX6 a1 up kp p_p (bX4 a2 un kn n_n [])) [] t) (va_A ((a0, .inr (7, [.ref a1, g8, g9, .ref a2, g10, g11, g12, g13, .int x_x.1, .int x_x.2])) :: bX6 a1 up kp p_p (bX4 a2 un kn n_n [])) sz)) 0 0 (va_A ((a0, .inr (7, [.ref a1, g8, g9, .ref a2, g10, g11, g12, g13, .int x_x.1, .int x_x.2])) :: bX6 a1 up kp p_p (bX4 a2 un kn n_n [])) sz) := by
  refine Met.ofW (cc := cX10_bestBait) (maxL := 3) (ret := (some .int)) (by decide) rfl ?_
  intro p e s m args below meth c s₁ B0 hml hv
  obtain ⟨rfl, hsz, hP, hK, hD0, hN⟩ := hv
  have hx := B0.exec
  have hb := B0.bytes
  have hr := B0.returns
  have hts := atoms_spec (ws := vfX10_bestBait) B0.pre
  have hown : s.vm.findClass RX10 = some m.cls := findClass_of_methodNamed B0.named
  have hlocks := B0.notSynchronized
  subst hsz
  have hD := hD0.self (sz := s.heap.size)
  generalize hAe : va_A ((a0, .inr (7, [.ref a1, g8, g9, .ref a2, g10, g11, g12, g13, .int x_x.1, .int x_x.2])) :: bX6 a1 up kp p_p (bX4 a2 un kn n_n [])) s.heap.size = A at hD ⊢
  have hA : ∀ q : Nat, s.heap.size ≤ q → A q := fun q h => by rw [← hAe]; exact Or.inr h
  have hS : va_S A s.heap s.heap [] := va_S.rf
  have hP : va_P (dC, dI) vwCl ((a0, .inr (7, [.ref a1, g8, g9, .ref a2, g10, g11, g12, g13, .int x_x.1, .int x_x.2])) :: bX6 a1 up kp p_p (bX4 a2 un kn n_n [])) s.heap := hP
  have hl := lv_entry ([.ref a0]) (n := 3) (Nat.le_of_ble_eq_true rfl)
  rw [lg_entry_eq]
  generalize (lg_sl ([.ref a0]) ++ List.replicate (3 - (lg_sl ([.ref a0])).length) Slot.unset).toArray = ls at hl ⊢
  have hl : lv_has ls 3 [(0, .ref a0)] := hl
  refine W_q (fun QQ hQQ => ?_)
  rw [f_X10_bestBait] at h
  refine lv_aload_n hx hb dX10_bestBait_0 rfl (lv_at hl 0 rfl) ?_
  refine lv_aload_n hx hb dX10_bestBait_1 rfl (lv_at hl 0 rfl) ?_
  obtain ⟨o2, eo2⟩ : ∃ o, o = f_X10_pierTrouble p_p := ⟨_, rfl⟩
  have h := nm_of h o2 eo2
  refine cl_i (wc := ((a0, .inr (7, [.ref a1, g8, g9, .ref a2, g10, g11, g12, g13, .int x_x.1, .int x_x.2])) :: bX6 a1 up kp p_p [])) (wr := (bX4 a2 un kn n_n [])) (va_runV (As := []) (rest := [.ref a0]) ⟨hx, hb, hml, hown, hts⟩ (kfX10_pierTrouble l dC dI a0 a1 up kp (g8) (g9) (.ref a2) (g10) (g11) (g12) (g13) (.int x_x.1) (.int x_x.2) p_p s.heap.size o2 eo2.symm) (cwV 0 hts gfX10_bestBait_0 rfl rfl rfl (by decide +kernel) ⟨(Nat.le_of_ble_eq_true rfl), (Nat.le_of_ble_eq_true rfl)⟩) (PV (hP.sub (ws' := ((a0, .inr (7, [.ref a1, g8, g9, .ref a2, g10, g11, g12, g13, .int x_x.1, .int x_x.2])) :: bX6 a1 up kp p_p [])) [0, 1, 2, 3, 4, 5, 6, 7, 8, 9, 10] rfl) (hK.sub (tys' := (tX6 kp ([]))) [0, 1, 2, 3, 4, 5, 6, 7, 8] rfl) (hD.sub (ws' := ((a0, .inr (7, [.ref a1, g8, g9, .ref a2, g10, g11, g12, g13, .int x_x.1, .int x_x.2])) :: bX6 a1 up kp p_p [])) [0, 1, 2, 3, 4, 5, 6, 7, 8, 9, 10] (by decide) rfl) hN 0 rfl rfl) rfl rfl hl.1 rfl (lv_room (Nat.le_of_ble_eq_true rfl)) dX10_bestBait_2 ⟨(Nat.le_of_ble_eq_true rfl), (Nat.le_of_ble_eq_true rfl)⟩) hP hD hK hS hA [0, 1, 2, 3, 4, 5, 6, 7, 8, 9, 10] [11, 12, 13, 14, 15] rfl rfl (by decide) (by decide) (fun r2 _ H locs hw hP hD _ hS => ?_)
  obtain rfl := hw.symm
  have hP : va_P (dC, dI) vwCl (bX4 a2 un kn n_n ((a0, .inr (7, [.ref a1, g8, g9, .ref a2, g10, g11, g12, g13, .int x_x.1, .int x_x.2])) :: bX6 a1 up kp p_p [])) H := hP
  have hD : va_D A (bX4 a2 un kn n_n ((a0, .inr (7, [.ref a1, g8, g9, .ref a2, g10, g11, g12, g13, .int x_x.1, .int x_x.2])) :: bX6 a1 up kp p_p [])) := hD
  obtain ⟨o5, eo5⟩ : ∃ o, o = f_X10_refused o2 x_x := ⟨_, rfl⟩
  have h := nm_of h o5 eo5
  refine cl_i (wc := ([(a0, .inr (7, [.ref a1, g8, g9, .ref a2, g10, g11, g12, g13, .int x_x.1, .int x_x.2]))])) (wr := (bX4 a2 un kn n_n (bX6 a1 up kp p_p []))) (va_runV (As := [.int o2]) (rest := []) ⟨hx, hb, hml, hown, hts⟩ (kfX10_refused l dC dI a0 o2 x_x (.ref a1) (g8) (g9) (.ref a2) (g10) (g11) (g12) (g13) H.size o5 eo5.symm) (cwV 1 hts gfX10_bestBait_1 rfl rfl rfl (by decide +kernel) ⟨(Nat.le_of_ble_eq_true rfl), (Nat.le_of_ble_eq_true rfl)⟩) (PV (hP.sub (ws' := ([(a0, .inr (7, [.ref a1, g8, g9, .ref a2, g10, g11, g12, g13, .int x_x.1, .int x_x.2]))])) [5] rfl) (hK.sub (tys' := ([])) [] rfl) (hD.sub (ws' := ([(a0, .inr (7, [.ref a1, g8, g9, .ref a2, g10, g11, g12, g13, .int x_x.1, .int x_x.2]))])) [5] (by decide) rfl) hN 0 rfl rfl) rfl rfl hl.1 rfl (lv_room (Nat.le_of_ble_eq_true rfl)) dX10_bestBait_5 ⟨(Nat.le_of_ble_eq_true rfl), (Nat.le_of_ble_eq_true rfl)⟩) hP hD hK hS hA [5] [0, 1, 2, 3, 4, 6, 7, 8, 9, 10, 11, 12, 13, 14, 15] rfl rfl (by decide) (by decide) (fun r5 _ H locs hw hP hD _ hS => ?_)
  obtain ⟨hw, br5⟩ := hw
  obtain rfl := hw
  have hP : va_P (dC, dI) vwCl (bX4 a2 un kn n_n (bX6 a1 up kp p_p ([(a0, .inr (7, [.ref a1, g8, g9, .ref a2, g10, g11, g12, g13, .int o5.2.1, .int o5.2.2]))]))) H := hP
  have hD : va_D A (bX4 a2 un kn n_n (bX6 a1 up kp p_p ([(a0, .inr (7, [.ref a1, g8, g9, .ref a2, g10, g11, g12, g13, .int o5.2.1, .int o5.2.2]))]))) := hD
  refine lv_if_eq (tgt := 13) hx hb dX10_bestBait_8 (by decide) (fun c8 => ?_) (fun c8 => ?_)
  · have h := (if_pos c8).symm.trans h
    refine lv_iconst (v := 0) hx hb dX10_bestBait_13 (by decide) ?_
    refine lv_istore_n (lv' := [(1, .int 0), (0, .ref a0)]) hx hb dX10_bestBait_14 rfl hl (by decide) rfl (fun ls hl => ?_)
    refine lv_iconst (v := 1) hx hb dX10_bestBait_15 (by decide) ?_
    refine lv_istore_n (lv' := [(2, .int 1), (1, .int 0), (0, .ref a0)]) hx hb dX10_bestBait_16 rfl hl (by decide) rfl (fun ls hl => ?_)
    have L17 : ∀ (n17 : Nat) (v17_l2 : Int32) (v17_l1 : Int32) (H : Heap) (locs : List Loc) (ls : Array Slot), f_X10_bestBait_L17 p_p n_n o5 n17 v17_l2 v17_l1 = some out → va_P (dC, dI) vwCl (bX4 a2 un kn n_n (bX6 a1 up kp p_p ([(a0, .inr (7, [.ref a1, g8, g9, .ref a2, g10, g11, g12, g13, .int o5.2.1, .int o5.2.2]))]))) H → va_D A (bX4 a2 un kn n_n (bX6 a1 up kp p_p ([(a0, .inr (7, [.ref a1, g8, g9, .ref a2, g10, g11, g12, g13, .int o5.2.1, .int o5.2.2]))]))) → va_S A s.heap H locs → lv_has ls 3 [(2, .int v17_l2), (1, .int v17_l1), (0, .ref a0)] → W p l e (headSpec vfX10_bestBait { frames := 1, cells := 0, slots := 0, locals := 23 }).room s m ([.ref a0]).toArray below meth c H locs 0 0 QQ (F0 m 17 ls []) := by
      intro n17
      induction n17 with
      | zero =>
        intro v17_l2 v17_l1 H locs ls h  _ _ _ _
        rw [f_X10_bestBait_L17] at h
        cases h
      | succ n17 ih17 =>
        intro v17_l2 v17_l1 H locs ls h  hP hD hS hl
        rw [f_X10_bestBait_L17] at h
        refine lv_iload_n hx hb dX10_bestBait_17 rfl (lv_at hl 0 rfl) ?_
        refine lv_aload_n hx hb dX10_bestBait_18 rfl (lv_at hl 2 rfl) ?_
        refine va_get (D := (dC, dI)) (ci := 7) (v := .ref a1) (C := RX10) (T := TX10) (N := 10) hx hb hts ifX10_bestBait_X10 hown hK hP 15 rfl rfl 0 (by decide) (hts (.fieldLink RX10 10 "HookPier" "plan" "LHookPier$Plan;") (List.mem_of_getElem? (i := 6) rfl)) (fun _ h9 => h9) rfl dX10_bestBait_19 ?_
        refine va_get (D := (dC, dI)) (ci := 4) (v := .int p_p.2.2.2.2.1) (C := RX6) (T := TX6) (N := 18) hx hb hts ifX10_bestBait_X6 hown hK hP 5 rfl rfl 4 (by decide) (hts (.fieldLink RX10 224 "HookPier$Plan" "baits" "I") (List.mem_of_getElem? (i := 13) rfl)) (fun _ h9 => h9) rfl dX10_bestBait_22 ?_
        refine lv_icmp_ge (tgt := 49) hx hb dX10_bestBait_25 (by decide) (fun c25 => ?_) (fun c25 => ?_)
        · have h := (if_pos c25).symm.trans h
          refine lv_iload_n hx hb dX10_bestBait_49 rfl (lv_at hl 1 rfl) ?_
          obtain rfl := Option.some.inj h
          have hP9 := hP.sub (ws' := ((a0, .inr (7, [.ref a1, g8, g9, .ref a2, g10, g11, g12, g13, .int o5.2.1, .int o5.2.2])) :: bX6 a1 up kp p_p (bX4 a2 un kn n_n []))) [15, 5, 6, 7, 8, 9, 10, 11, 12, 13, 14, 0, 1, 2, 3, 4] rfl
          have hD9 := hD.sub (ws' := ((a0, .inr (7, [.ref a1, g8, g9, .ref a2, g10, g11, g12, g13, .int o5.2.1, .int o5.2.2])) :: bX6 a1 up kp p_p (bX4 a2 un kn n_n []))) [15, 5, 6, 7, 8, 9, 10, 11, 12, 13, 14, 0, 1, 2, 3, 4] (by decide) rfl
          have hK9 := hK.sub (tys' := []) [] rfl
          rw [hQQ]
          exact W.iret (v := v17_l1) hx hb hr (fun t ht hW => ⟨⟨v17_l1, (), rfl, rfl, by rw [ht]; exact hP9, va_K.moved hW.alike hK9, hD9⟩, hS.F ht⟩) hS.2.2 dX10_bestBait_50
        · have h := (if_neg c25).symm.trans h
          refine lv_aload_n hx hb dX10_bestBait_28 rfl (lv_at hl 2 rfl) ?_
          refine lv_iload_n hx hb dX10_bestBait_29 rfl (lv_at hl 0 rfl) ?_
          obtain ⟨o30, eo30, h⟩ := bd_of h
          refine cl_i (wc := ((a0, .inr (7, [.ref a1, g8, g9, .ref a2, g10, g11, g12, g13, .int o5.2.1, .int o5.2.2])) :: bX6 a1 up kp p_p (bX4 a2 un kn n_n []))) (wr := []) (va_runV (As := [.int v17_l2]) (rest := []) ⟨hx, hb, hml, hown, hts⟩ (kfX10_likers l dC dI a0 v17_l2 a1 a2 up kp un kn (g8) (g9) (g10) (g11) (g12) (g13) (.int o5.2.1) (.int o5.2.2) p_p n_n H.size o30 eo30) (cwV 1 hts gfX10_bestBait_2 rfl rfl rfl (by decide +kernel) ⟨(Nat.le_of_ble_eq_true rfl), (Nat.le_of_ble_eq_true rfl)⟩) (PV (hP.sub (ws' := ((a0, .inr (7, [.ref a1, g8, g9, .ref a2, g10, g11, g12, g13, .int o5.2.1, .int o5.2.2])) :: bX6 a1 up kp p_p (bX4 a2 un kn n_n []))) [15, 5, 6, 7, 8, 9, 10, 11, 12, 13, 14, 0, 1, 2, 3, 4] rfl) (hK.sub (tys' := (tX6 kp (tX4 kn ([])))) [0, 1, 2, 3, 4, 5, 6, 7, 8, 9, 10, 11, 12] rfl) (hD.sub (ws' := ((a0, .inr (7, [.ref a1, g8, g9, .ref a2, g10, g11, g12, g13, .int o5.2.1, .int o5.2.2])) :: bX6 a1 up kp p_p (bX4 a2 un kn n_n []))) [15, 5, 6, 7, 8, 9, 10, 11, 12, 13, 14, 0, 1, 2, 3, 4] (by decide) rfl) hN 0 rfl rfl) rfl rfl hl.1 rfl (lv_room (Nat.le_of_ble_eq_true rfl)) dX10_bestBait_30 ⟨(Nat.le_of_ble_eq_true rfl), (Nat.le_of_ble_eq_true rfl)⟩) hP hD hK hS hA [15, 5, 6, 7, 8, 9, 10, 11, 12, 13, 14, 0, 1, 2, 3, 4] [] rfl rfl (by decide) (by decide) (fun r30 _ H locs hw hP hD _ hS => ?_)
          obtain rfl := hw.symm
          have hP : va_P (dC, dI) vwCl ((a0, .inr (7, [.ref a1, g8, g9, .ref a2, g10, g11, g12, g13, .int o5.2.1, .int o5.2.2])) :: bX6 a1 up kp p_p (bX4 a2 un kn n_n [])) H := hP
          have hD : va_D A ((a0, .inr (7, [.ref a1, g8, g9, .ref a2, g10, g11, g12, g13, .int o5.2.1, .int o5.2.2])) :: bX6 a1 up kp p_p (bX4 a2 un kn n_n [])) := hD
          refine lv_aload_n hx hb dX10_bestBait_33 rfl (lv_at hl 2 rfl) ?_
          refine lv_iload_n hx hb dX10_bestBait_34 rfl (lv_at hl 1 rfl) ?_
          obtain ⟨o35, eo35, h⟩ := bd_of h
          refine cl_i (wc := ((a0, .inr (7, [.ref a1, g8, g9, .ref a2, g10, g11, g12, g13, .int o5.2.1, .int o5.2.2])) :: bX6 a1 up kp p_p (bX4 a2 un kn n_n []))) (wr := []) (va_runV (As := [.int v17_l1]) (rest := [.int o30]) ⟨hx, hb, hml, hown, hts⟩ (kfX10_likers l dC dI a0 v17_l1 a1 a2 up kp un kn (g8) (g9) (g10) (g11) (g12) (g13) (.int o5.2.1) (.int o5.2.2) p_p n_n H.size o35 eo35) (cwV 1 hts gfX10_bestBait_2 rfl rfl rfl (by decide +kernel) ⟨(Nat.le_of_ble_eq_true rfl), (Nat.le_of_ble_eq_true rfl)⟩) (PV (hP.sub (ws' := ((a0, .inr (7, [.ref a1, g8, g9, .ref a2, g10, g11, g12, g13, .int o5.2.1, .int o5.2.2])) :: bX6 a1 up kp p_p (bX4 a2 un kn n_n []))) [0, 1, 2, 3, 4, 5, 6, 7, 8, 9, 10, 11, 12, 13, 14, 15] rfl) (hK.sub (tys' := (tX6 kp (tX4 kn ([])))) [0, 1, 2, 3, 4, 5, 6, 7, 8, 9, 10, 11, 12] rfl) (hD.sub (ws' := ((a0, .inr (7, [.ref a1, g8, g9, .ref a2, g10, g11, g12, g13, .int o5.2.1, .int o5.2.2])) :: bX6 a1 up kp p_p (bX4 a2 un kn n_n []))) [0, 1, 2, 3, 4, 5, 6, 7, 8, 9, 10, 11, 12, 13, 14, 15] (by decide) rfl) hN 0 rfl rfl) rfl rfl hl.1 rfl (lv_room (Nat.le_of_ble_eq_true rfl)) dX10_bestBait_35 ⟨(Nat.le_of_ble_eq_true rfl), (Nat.le_of_ble_eq_true rfl)⟩) hP hD hK hS hA [0, 1, 2, 3, 4, 5, 6, 7, 8, 9, 10, 11, 12, 13, 14, 15] [] rfl rfl (by decide) (by decide) (fun r35 _ H locs hw hP hD _ hS => ?_)
          obtain rfl := hw.symm
          have hP : va_P (dC, dI) vwCl ((a0, .inr (7, [.ref a1, g8, g9, .ref a2, g10, g11, g12, g13, .int o5.2.1, .int o5.2.2])) :: bX6 a1 up kp p_p (bX4 a2 un kn n_n [])) H := hP
          have hD : va_D A ((a0, .inr (7, [.ref a1, g8, g9, .ref a2, g10, g11, g12, g13, .int o5.2.1, .int o5.2.2])) :: bX6 a1 up kp p_p (bX4 a2 un kn n_n [])) := hD
          have J43 : ∀ (v43_l1 : Int32) (H : Heap) (locs : List Loc) (ls : Array Slot), f_X10_bestBait_J43 (f_X10_bestBait_L17 p_p n_n o5 n17) v17_l2 v43_l1 = some out → va_P (dC, dI) vwCl ((a0, .inr (7, [.ref a1, g8, g9, .ref a2, g10, g11, g12, g13, .int o5.2.1, .int o5.2.2])) :: bX6 a1 up kp p_p (bX4 a2 un kn n_n [])) H → va_D A ((a0, .inr (7, [.ref a1, g8, g9, .ref a2, g10, g11, g12, g13, .int o5.2.1, .int o5.2.2])) :: bX6 a1 up kp p_p (bX4 a2 un kn n_n [])) → va_S A s.heap H locs → lv_has ls 3 [(2, .int v17_l2), (1, .int v43_l1), (0, .ref a0)] → W p l e (headSpec vfX10_bestBait { frames := 1, cells := 0, slots := 0, locals := 23 }).room s m ([.ref a0]).toArray below meth c H locs 0 0 QQ (F0 m 43 ls []) := by
            intro v43_l1 H locs ls h  hP hD hS hl
            rw [f_X10_bestBait_J43] at h
            refine lv_iinc (v := (v17_l2 + (1 : Int32))) (lv' := [(2, .int (v17_l2 + (1 : Int32))), (1, .int v43_l1), (0, .ref a0)]) hx hb dX10_bestBait_43 hl (k := 0) rfl rfl (by decide) rfl (fun ls hl => ?_)
            refine lv_goto (tgt := 17) hx hb dX10_bestBait_46 (by decide) ?_
            exact ih17 (v17_l2 + (1 : Int32)) v43_l1 H _ ls h  (hP.sub (ws' := (bX4 a2 un kn n_n (bX6 a1 up kp p_p ([(a0, .inr (7, [.ref a1, g8, g9, .ref a2, g10, g11, g12, g13, .int o5.2.1, .int o5.2.2]))])))) [11, 12, 13, 14, 15, 1, 2, 3, 4, 5, 6, 7, 8, 9, 10, 0] rfl) (hD.sub (ws' := (bX4 a2 un kn n_n (bX6 a1 up kp p_p ([(a0, .inr (7, [.ref a1, g8, g9, .ref a2, g10, g11, g12, g13, .int o5.2.1, .int o5.2.2]))])))) [11, 12, 13, 14, 15, 1, 2, 3, 4, 5, 6, 7, 8, 9, 10, 0] (by decide) rfl) hS (lv_sub hl [0, 1, 2] rfl)
          refine lv_icmp_le (tgt := 43) hx hb dX10_bestBait_38 (by decide) (fun c38 => ?_) (fun c38 => ?_)
          · have h := (if_pos c38).symm.trans h
            exact J43 v17_l1 H _ ls h  hP hD hS (lv_sub hl [0, 1, 2] rfl)
          · have h := (if_neg c38).symm.trans h
            refine lv_iload_n hx hb dX10_bestBait_41 rfl (lv_at hl 0 rfl) ?_
            refine lv_istore_n (lv' := [(1, .int v17_l2), (2, .int v17_l2), (0, .ref a0)]) hx hb dX10_bestBait_42 rfl hl (by decide) rfl (fun ls hl => ?_)
            exact J43 v17_l2 H _ ls h  hP hD hS (lv_sub hl [1, 0, 2] rfl)
    exact L17 FU (1 : Int32) (0 : Int32) H _ ls h  hP hD hS (lv_sub hl [0, 1, 2] rfl)
  · have h := (if_neg c8).symm.trans h
    refine lv_iconst (v := (-1)) hx hb dX10_bestBait_11 (by decide) ?_
    obtain rfl := Option.some.inj h
    have hP9 := hP.sub (ws' := ((a0, .inr (7, [.ref a1, g8, g9, .ref a2, g10, g11, g12, g13, .int o5.2.1, .int o5.2.2])) :: bX6 a1 up kp p_p (bX4 a2 un kn n_n []))) [15, 5, 6, 7, 8, 9, 10, 11, 12, 13, 14, 0, 1, 2, 3, 4] rfl
    have hD9 := hD.sub (ws' := ((a0, .inr (7, [.ref a1, g8, g9, .ref a2, g10, g11, g12, g13, .int o5.2.1, .int o5.2.2])) :: bX6 a1 up kp p_p (bX4 a2 un kn n_n []))) [15, 5, 6, 7, 8, 9, 10, 11, 12, 13, 14, 0, 1, 2, 3, 4] (by decide) rfl
    have hK9 := hK.sub (tys' := []) [] rfl
    rw [hQQ]
    exact W.iret (v := (-1 : Int32)) hx hb hr (fun t ht hW => ⟨⟨(-1 : Int32), (), rfl, rfl, by rw [ht]; exact hP9, va_K.moved hW.alike hK9, hD9⟩, hS.F ht⟩) hS.2.2 dX10_bestBait_12
theorem dX10_hungerFor_0 : decode cX10_hungerFor 0 = .ok (.aload_n 0, 1) := by decide +kernel
theorem dX10_hungerFor_1 : decode cX10_hungerFor 1 = .ok (.aload_n 0, 1) := by decide +kernel
theorem dX10_hungerFor_10 : decode cX10_hungerFor 10 = .ok (.invokevirtual 79, 3) := by decide +kernel
theorem dX10_hungerFor_13 : decode cX10_hungerFor 13 = .ok (.ifCond .eq 5, 3) := by decide +kernel
theorem dX10_hungerFor_16 : decode cX10_hungerFor 16 = .ok (.iconst (-1), 1) := by decide +kernel
theorem dX10_hungerFor_17 : decode cX10_hungerFor 17 = .ok (.ireturn, 1) := by decide +kernel
theorem dX10_hungerFor_18 : decode cX10_hungerFor 18 = .ok (.iload_n 2, 1) := by decide +kernel
theorem dX10_hungerFor_19 : decode cX10_hungerFor 19 = .ok (.iload_n 3, 1) := by decide +kernel
theorem dX10_hungerFor_2 : decode cX10_hungerFor 2 = .ok (.iload_n 1, 1) := by decide +kernel
theorem dX10_hungerFor_20 : decode cX10_hungerFor 20 = .ok (.iload 4, 2) := by decide +kernel
theorem dX10_hungerFor_22 : decode cX10_hungerFor 22 = .ok (.invokestatic 180, 3) := by decide +kernel
theorem dX10_hungerFor_25 : decode cX10_hungerFor 25 = .ok (.istore 5, 2) := by decide +kernel
theorem dX10_hungerFor_27 : decode cX10_hungerFor 27 = .ok (.iconst 0, 1) := by decide +kernel
theorem dX10_hungerFor_28 : decode cX10_hungerFor 28 = .ok (.istore 6, 2) := by decide +kernel
theorem dX10_hungerFor_3 : decode cX10_hungerFor 3 = .ok (.iload_n 2, 1) := by decide +kernel
theorem dX10_hungerFor_30 : decode cX10_hungerFor 30 = .ok (.iload 6, 2) := by decide +kernel
theorem dX10_hungerFor_32 : decode cX10_hungerFor 32 = .ok (.bipush 99, 2) := by decide +kernel
theorem dX10_hungerFor_34 : decode cX10_hungerFor 34 = .ok (.if_icmp .gt 29, 3) := by decide +kernel
theorem dX10_hungerFor_37 : decode cX10_hungerFor 37 = .ok (.aload_n 0, 1) := by decide +kernel
theorem dX10_hungerFor_38 : decode cX10_hungerFor 38 = .ok (.getfield 10, 3) := by decide +kernel
theorem dX10_hungerFor_4 : decode cX10_hungerFor 4 = .ok (.iload_n 3, 1) := by decide +kernel
theorem dX10_hungerFor_41 : decode cX10_hungerFor 41 = .ok (.iload_n 1, 1) := by decide +kernel
theorem dX10_hungerFor_42 : decode cX10_hungerFor 42 = .ok (.iload 6, 2) := by decide +kernel
theorem dX10_hungerFor_44 : decode cX10_hungerFor 44 = .ok (.iload 5, 2) := by decide +kernel
theorem dX10_hungerFor_46 : decode cX10_hungerFor 46 = .ok (.invokevirtual 230, 3) := by decide +kernel
theorem dX10_hungerFor_49 : decode cX10_hungerFor 49 = .ok (.bipush 50, 2) := by decide +kernel
theorem dX10_hungerFor_5 : decode cX10_hungerFor 5 = .ok (.iload 4, 2) := by decide +kernel
theorem dX10_hungerFor_51 : decode cX10_hungerFor 51 = .ok (.if_icmp .lt 6, 3) := by decide +kernel
theorem dX10_hungerFor_54 : decode cX10_hungerFor 54 = .ok (.iload 6, 2) := by decide +kernel
theorem dX10_hungerFor_56 : decode cX10_hungerFor 56 = .ok (.ireturn, 1) := by decide +kernel
theorem dX10_hungerFor_57 : decode cX10_hungerFor 57 = .ok (.iinc 6 1, 3) := by decide +kernel
theorem dX10_hungerFor_60 : decode cX10_hungerFor 60 = .ok (.goto (-30), 3) := by decide +kernel
theorem dX10_hungerFor_63 : decode cX10_hungerFor 63 = .ok (.bipush (-2), 2) := by decide +kernel
theorem dX10_hungerFor_65 : decode cX10_hungerFor 65 = .ok (.ireturn, 1) := by decide +kernel
theorem dX10_hungerFor_7 : decode cX10_hungerFor 7 = .ok (.invokevirtual 176, 3) := by decide +kernel
def vfX10_hungerFor : List Cond := .code yX10_hungerFor cX10_hungerFor 7 (some .int) :: ([.methodLink RX10 176 yX10_wishTrouble, .instanceMethod yX10_wishTrouble, .selects RX10 yX10_wishTrouble yX10_wishTrouble, .initialized RX10, .code yX10_wishTrouble cX10_wishTrouble 6 (some .int), .methodLink RX10 102 yX10_answerTrouble, .instanceMethod yX10_answerTrouble, .selects RX10 yX10_answerTrouble yX10_answerTrouble, .code yX10_answerTrouble cX10_answerTrouble 2 (some .int), .fieldLink RX10 10 "HookPier" "plan" "LHookPier$Plan;", .methodLink RX10 381 yX6_hasAnswer, .instanceMethod yX6_hasAnswer, .selects RX6 yX6_hasAnswer yX6_hasAnswer, .initialized RX6, .code yX6_hasAnswer cX6_hasAnswer 2 (some .boolean), .fieldLink RX6 30 "HookPier$Plan" "answers" "I", .code yX10_within cX10_within 3 (some .boolean), .static yX10_within, .methodLink RX10 199 yX10_questionTrouble, .instanceMethod yX10_questionTrouble, .selects RX10 yX10_questionTrouble yX10_questionTrouble, .code yX10_questionTrouble cX10_questionTrouble 4 (some .int), .methodLink RX10 239 yX6_hasSpot, .instanceMethod yX6_hasSpot, .selects RX6 yX6_hasSpot yX6_hasSpot, .code yX6_hasSpot cX6_hasSpot 2 (some .boolean), .fieldLink RX6 9 "HookPier$Plan" "spots" "I", .methodLink RX10 384 yX6_hasBait, .instanceMethod yX6_hasBait, .selects RX6 yX6_hasBait yX6_hasBait, .code yX6_hasBait cX6_hasBait 2 (some .boolean), .fieldLink RX6 24 "HookPier$Plan" "baits" "I", .fieldLink RX10 378 "HookPier$Plan" "deep" "I", .methodLink RX10 75 yX10_within, .methodLink RX10 79 yX10_refused, .instanceMethod yX10_refused, .selects RX10 yX10_refused yX10_refused, .code yX10_refused cX10_refused 2 (some .boolean), .fieldLink RX10 61 "HookPier" "troubleNow" "I", .methodLink RX10 180 yX10_question, .static yX10_question, .code yX10_question cX10_question 3 (some .int), .methodLink RX10 230 yX6_wishBy, .instanceMethod yX6_wishBy, .selects RX6 yX6_wishBy yX6_wishBy, .code yX6_wishBy cX6_wishBy 5 (some .int), .code yX10_spotOf cX10_spotOf 1 (some .int), .static yX10_spotOf, .fieldLink RX6 46 "HookPier$Plan" "at" "[I", .methodLink RX6 89 Lib.Math.abs.name, .static Lib.Math.abs.name, .initialized "java/lang/Math", .code Lib.Math.abs.name Lib.Math.abs.code 1 (some .int), .fieldLink RX6 43 "HookPier$Plan" "kind" "[I", .methodLink RX6 98 Lib.Math.min.name, .static Lib.Math.min.name, .code Lib.Math.min.name Lib.Math.min.code 2 (some .int), .methodLink RX6 102 Lib.Math.max.name, .static Lib.Math.max.name, .code Lib.Math.max.name Lib.Math.max.code 2 (some .int), .code yX10_fathomsOf cX10_fathomsOf 1 (some .int), .static yX10_fathomsOf, .fieldLink RX6 49 "HookPier$Plan" "depth" "[I", .fieldLink RX6 55 "HookPier$Plan" "likes" "[I", .code yX10_baitOf cX10_baitOf 1 (some .int), .static yX10_baitOf] ++ wsX100 ++ wsX60)
theorem ifX10_hungerFor_X10 : ∀ w ∈ wsX100, w ∈ vfX10_hungerFor := fun _ h => List.mem_cons_of_mem _ (List.mem_append_left _ (List.mem_append_right _ h))
theorem ifX10_hungerFor_X6 : ∀ w ∈ wsX60, w ∈ vfX10_hungerFor := fun _ h => List.mem_cons_of_mem _ (List.mem_append_right _ h)
set_option maxRecDepth 20000 in
theorem gfX10_hungerFor_0 : GoodIn vfX10_hungerFor (wsV RX10 176 RX10 yX10_wishTrouble vfX10_wishTrouble) := goodIn_app (goodIn_r [.methodLink RX10 176 yX10_wishTrouble, .instanceMethod yX10_wishTrouble, .selects RX10 yX10_wishTrouble yX10_wishTrouble, .initialized RX10] [1, 2, 3, 4] (by decide +kernel) (by decide +kernel)) (goodIn_ca (goodIn_ca (goodIn_r (.code yX10_wishTrouble cX10_wishTrouble 6 (some .int) :: [.methodLink RX10 102 yX10_answerTrouble, .instanceMethod yX10_answerTrouble, .selects RX10 yX10_answerTrouble yX10_answerTrouble, .initialized RX10, .code yX10_answerTrouble cX10_answerTrouble 2 (some .int), .fieldLink RX10 10 "HookPier" "plan" "LHookPier$Plan;", .methodLink RX10 381 yX6_hasAnswer, .instanceMethod yX6_hasAnswer, .selects RX6 yX6_hasAnswer yX6_hasAnswer, .initialized RX6, .code yX6_hasAnswer cX6_hasAnswer 2 (some .boolean), .fieldLink RX6 30 "HookPier$Plan" "answers" "I", .code yX10_within cX10_within 3 (some .boolean), .static yX10_within, .methodLink RX10 199 yX10_questionTrouble, .instanceMethod yX10_questionTrouble, .selects RX10 yX10_questionTrouble yX10_questionTrouble, .code yX10_questionTrouble cX10_questionTrouble 4 (some .int), .methodLink RX10 239 yX6_hasSpot, .instanceMethod yX6_hasSpot, .selects RX6 yX6_hasSpot yX6_hasSpot, .code yX6_hasSpot cX6_hasSpot 2 (some .boolean), .fieldLink RX6 9 "HookPier$Plan" "spots" "I", .methodLink RX10 384 yX6_hasBait, .instanceMethod yX6_hasBait, .selects RX6 yX6_hasBait yX6_hasBait, .code yX6_hasBait cX6_hasBait 2 (some .boolean), .fieldLink RX6 24 "HookPier$Plan" "baits" "I", .fieldLink RX10 378 "HookPier$Plan" "deep" "I", .methodLink RX10 75 yX10_within]) [5, 6, 7, 8, 4, 9, 10, 11, 12, 13, 14, 15, 16, 17, 18, 19, 20, 21, 22, 23, 24, 25, 26, 27, 28, 29, 30, 31, 32, 33, 34] (by decide +kernel) (by decide +kernel) : GoodIn vfX10_hungerFor (.code yX10_wishTrouble cX10_wishTrouble 6 (some .int) :: [.methodLink RX10 102 yX10_answerTrouble, .instanceMethod yX10_answerTrouble, .selects RX10 yX10_answerTrouble yX10_answerTrouble, .initialized RX10, .code yX10_answerTrouble cX10_answerTrouble 2 (some .int), .fieldLink RX10 10 "HookPier" "plan" "LHookPier$Plan;", .methodLink RX10 381 yX6_hasAnswer, .instanceMethod yX6_hasAnswer, .selects RX6 yX6_hasAnswer yX6_hasAnswer, .initialized RX6, .code yX6_hasAnswer cX6_hasAnswer 2 (some .boolean), .fieldLink RX6 30 "HookPier$Plan" "answers" "I", .code yX10_within cX10_within 3 (some .boolean), .static yX10_within, .methodLink RX10 199 yX10_questionTrouble, .instanceMethod yX10_questionTrouble, .selects RX10 yX10_questionTrouble yX10_questionTrouble, .code yX10_questionTrouble cX10_questionTrouble 4 (some .int), .methodLink RX10 239 yX6_hasSpot, .instanceMethod yX6_hasSpot, .selects RX6 yX6_hasSpot yX6_hasSpot, .code yX6_hasSpot cX6_hasSpot 2 (some .boolean), .fieldLink RX6 9 "HookPier$Plan" "spots" "I", .methodLink RX10 384 yX6_hasBait, .instanceMethod yX6_hasBait, .selects RX6 yX6_hasBait yX6_hasBait, .code yX6_hasBait cX6_hasBait 2 (some .boolean), .fieldLink RX6 24 "HookPier$Plan" "baits" "I", .fieldLink RX10 378 "HookPier$Plan" "deep" "I", .methodLink RX10 75 yX10_within])) (goodIn_sub ifX10_hungerFor_X10 (by decide +kernel))) (goodIn_sub ifX10_hungerFor_X6 (by decide +kernel)))
set_option maxRecDepth 20000 in
theorem gfX10_hungerFor_1 : GoodIn vfX10_hungerFor (wsV RX10 79 RX10 yX10_refused vfX10_refused) := goodIn_app (goodIn_r [.methodLink RX10 79 yX10_refused, .instanceMethod yX10_refused, .selects RX10 yX10_refused yX10_refused, .initialized RX10] [35, 36, 37, 4] (by decide +kernel) (by decide +kernel)) (goodIn_ca (goodIn_r (.code yX10_refused cX10_refused 2 (some .boolean) :: [.fieldLink RX10 61 "HookPier" "troubleNow" "I"]) [38, 39] (by decide +kernel) (by decide +kernel) : GoodIn vfX10_hungerFor (.code yX10_refused cX10_refused 2 (some .boolean) :: [.fieldLink RX10 61 "HookPier" "troubleNow" "I"])) (goodIn_sub ifX10_hungerFor_X10 (by decide +kernel)))
set_option maxRecDepth 20000 in
theorem gfX10_hungerFor_2 : GoodIn vfX10_hungerFor (va_wsS RX10 180 yX10_question vfX10_question) := goodIn_app (goodIn_r [.methodLink RX10 180 yX10_question, .static yX10_question, .initialized RX10] [40, 41, 4] (by decide +kernel) (by decide +kernel)) (goodIn_r (.code yX10_question cX10_question 3 (some .int) :: []) [42] (by decide +kernel) (by decide +kernel) : GoodIn vfX10_hungerFor (.code yX10_question cX10_question 3 (some .int) :: []))
set_option maxRecDepth 20000 in
theorem gfX10_hungerFor_3 : GoodIn vfX10_hungerFor (wsV RX10 230 RX6 yX6_wishBy vfX6_wishBy) := goodIn_app (goodIn_r [.methodLink RX10 230 yX6_wishBy, .instanceMethod yX6_wishBy, .selects RX6 yX6_wishBy yX6_wishBy, .initialized RX6] [43, 44, 45, 14] (by decide +kernel) (by decide +kernel)) (goodIn_ca (goodIn_r (.code yX6_wishBy cX6_wishBy 5 (some .int) :: [.code yX10_spotOf cX10_spotOf 1 (some .int), .initialized RX10, .static yX10_spotOf, .fieldLink RX6 46 "HookPier$Plan" "at" "[I", .methodLink RX6 89 Lib.Math.abs.name, .static Lib.Math.abs.name, .initialized "java/lang/Math", .code Lib.Math.abs.name Lib.Math.abs.code 1 (some .int), .fieldLink RX6 43 "HookPier$Plan" "kind" "[I", .methodLink RX6 98 Lib.Math.min.name, .static Lib.Math.min.name, .code Lib.Math.min.name Lib.Math.min.code 2 (some .int), .methodLink RX6 102 Lib.Math.max.name, .static Lib.Math.max.name, .code Lib.Math.max.name Lib.Math.max.code 2 (some .int), .code yX10_fathomsOf cX10_fathomsOf 1 (some .int), .static yX10_fathomsOf, .fieldLink RX6 49 "HookPier$Plan" "depth" "[I", .fieldLink RX6 55 "HookPier$Plan" "likes" "[I", .code yX10_baitOf cX10_baitOf 1 (some .int), .static yX10_baitOf]) [46, 47, 4, 48, 49, 50, 51, 52, 53, 54, 55, 56, 57, 58, 59, 60, 61, 62, 63, 64, 65, 66] (by decide +kernel) (by decide +kernel) : GoodIn vfX10_hungerFor (.code yX6_wishBy cX6_wishBy 5 (some .int) :: [.code yX10_spotOf cX10_spotOf 1 (some .int), .initialized RX10, .static yX10_spotOf, .fieldLink RX6 46 "HookPier$Plan" "at" "[I", .methodLink RX6 89 Lib.Math.abs.name, .static Lib.Math.abs.name, .initialized "java/lang/Math", .code Lib.Math.abs.name Lib.Math.abs.code 1 (some .int), .fieldLink RX6 43 "HookPier$Plan" "kind" "[I", .methodLink RX6 98 Lib.Math.min.name, .static Lib.Math.min.name, .code Lib.Math.min.name Lib.Math.min.code 2 (some .int), .methodLink RX6 102 Lib.Math.max.name, .static Lib.Math.max.name, .code Lib.Math.max.name Lib.Math.max.code 2 (some .int), .code yX10_fathomsOf cX10_fathomsOf 1 (some .int), .static yX10_fathomsOf, .fieldLink RX6 49 "HookPier$Plan" "depth" "[I", .fieldLink RX6 55 "HookPier$Plan" "likes" "[I", .code yX10_baitOf cX10_baitOf 1 (some .int), .static yX10_baitOf])) (goodIn_sub ifX10_hungerFor_X6 (by decide +kernel)))
set_option maxHeartbeats 2000000 in
set_option maxRecDepth 100000 in
theorem kfX10_hungerFor (l : Launch) (dC : Nat → ClassId) (dI : Nat → Nat → Nat) (a0 : Nat) (k1 : Int32) (k2 : Int32) (k3 : Int32) (k4 : Int32) (a5 : Nat) (up : Nat → Nat) (kp : Nat → ClassId) (x_x : TX10_x) (g9 : Value) (g10 : Value) (g11 : Value) (g12 : Value) (g13 : Value) (g14 : Value) (g15 : Value) (p_p : TX6_p) (sz : Nat) (out : (Int32 × TX10_x)) (h : f_X10_hungerFor k1 k2 k3 k4 x_x p_p = some out) : Met l yX10_hungerFor vfX10_hungerFor ({ frames := 4, cells := 0, slots := 0, locals := 91 }) (PC (dC, dI) [.ref a0, .int k1, .int k2, .int k3, .int k4] sz ((a0, .inr (7, [.ref a5, g9, g10, g11, g12, g13, g14, g15, .int x_x.1, .int x_x.2])) :: bX6 a5 up kp p_p []) (tX6 kp ([]))) (va_Qi (S := Unit) (fun (r : Int32) _ => r = out.1) (fun _ t => BC (dC, dI) (va_A ((a0, .inr (7, [.ref a5, g9, g10, g11, g12, g13, g14, g15, .int x_x.1, .int x_x.2])) :: bX6 a5 up kp p_p []) sz) ((a0, .inr (7, [.ref a5, g9, g10, g11, g12, g13, g14, g15, .int out.2.1, .int out.2.2])) :: bX6 a5 up kp p_p []) [] t) (va_A ((a0, .inr (7, [.ref a5, g9, g10, g11, g12, g13, g14, g15, .int x_x.1, .int x_x.2])) :: bX6 a5 up kp p_p []) sz)) 0 0 (va_A ((a0, .inr (7, [.ref a5, g9, g10, g11, g12, g13, g14, g15, .int x_x.1, .int x_x.2])) :: bX6 a5 up kp p_p []) sz) := by
  refine Met.ofW (cc := cX10_hungerFor) (maxL := 7) (ret := (some .int)) (by decide) rfl ?_
  intro p e s m args below meth c s₁ B0 hml hv
  obtain ⟨rfl, hsz, hP, hK, hD0, hN⟩ := hv
  have hx := B0.exec
  have hb := B0.bytes
  have hr := B0.returns
  have hts := atoms_spec (ws := vfX10_hungerFor) B0.pre
  have hown : s.vm.findClass RX10 = some m.cls := findClass_of_methodNamed B0.named
  have hlocks := B0.notSynchronized
  subst hsz
  have hD := hD0.self (sz := s.heap.size)
  generalize hAe : va_A ((a0, .inr (7, [.ref a5, g9, g10, g11, g12, g13, g14, g15, .int x_x.1, .int x_x.2])) :: bX6 a5 up kp p_p []) s.heap.size = A at hD ⊢
  have hA : ∀ q : Nat, s.heap.size ≤ q → A q := fun q h => by rw [← hAe]; exact Or.inr h
  have hS : va_S A s.heap s.heap [] := va_S.rf
  have hP : va_P (dC, dI) vwCl ((a0, .inr (7, [.ref a5, g9, g10, g11, g12, g13, g14, g15, .int x_x.1, .int x_x.2])) :: bX6 a5 up kp p_p []) s.heap := hP
  have hl := lv_entry ([.ref a0, .int k1, .int k2, .int k3, .int k4]) (n := 7) (Nat.le_of_ble_eq_true rfl)
  rw [lg_entry_eq]
  generalize (lg_sl ([.ref a0, .int k1, .int k2, .int k3, .int k4]) ++ List.replicate (7 - (lg_sl ([.ref a0, .int k1, .int k2, .int k3, .int k4])).length) Slot.unset).toArray = ls at hl ⊢
  have hl : lv_has ls 7 [(0, .ref a0), (1, .int k1), (2, .int k2), (3, .int k3), (4, .int k4)] := hl
  refine W_q (fun QQ hQQ => ?_)
  rw [f_X10_hungerFor] at h
  refine lv_aload_n hx hb dX10_hungerFor_0 rfl (lv_at hl 0 rfl) ?_
  refine lv_aload_n hx hb dX10_hungerFor_1 rfl (lv_at hl 0 rfl) ?_
  refine lv_iload_n hx hb dX10_hungerFor_2 rfl (lv_at hl 1 rfl) ?_
  refine lv_iload_n hx hb dX10_hungerFor_3 rfl (lv_at hl 2 rfl) ?_
  refine lv_iload_n hx hb dX10_hungerFor_4 rfl (lv_at hl 3 rfl) ?_
  refine lv_iload hx hb dX10_hungerFor_5 (lv_at hl 4 rfl) ?_
  obtain ⟨o7, eo7⟩ : ∃ o, o = f_X10_wishTrouble k1 k2 k3 k4 p_p := ⟨_, rfl⟩
  have h := nm_of h o7 eo7
  refine cl_i (wc := ((a0, .inr (7, [.ref a5, g9, g10, g11, g12, g13, g14, g15, .int x_x.1, .int x_x.2])) :: bX6 a5 up kp p_p [])) (wr := []) (va_runV (As := [.int k1, .int k2, .int k3, .int k4]) (rest := [.ref a0]) ⟨hx, hb, hml, hown, hts⟩ (kfX10_wishTrouble l dC dI a0 k1 k2 k3 k4 a5 up kp (g9) (g10) (g11) (g12) (g13) (g14) (g15) (.int x_x.1) (.int x_x.2) p_p s.heap.size o7 eo7.symm) (cwV 4 hts gfX10_hungerFor_0 rfl rfl rfl (by decide +kernel) ⟨(Nat.le_of_ble_eq_true rfl), (Nat.le_of_ble_eq_true rfl)⟩) (PV (hP.sub (ws' := ((a0, .inr (7, [.ref a5, g9, g10, g11, g12, g13, g14, g15, .int x_x.1, .int x_x.2])) :: bX6 a5 up kp p_p [])) [0, 1, 2, 3, 4, 5, 6, 7, 8, 9, 10] rfl) (hK.sub (tys' := (tX6 kp ([]))) [0, 1, 2, 3, 4, 5, 6, 7, 8] rfl) (hD.sub (ws' := ((a0, .inr (7, [.ref a5, g9, g10, g11, g12, g13, g14, g15, .int x_x.1, .int x_x.2])) :: bX6 a5 up kp p_p [])) [0, 1, 2, 3, 4, 5, 6, 7, 8, 9, 10] (by decide) rfl) hN 0 rfl rfl) rfl rfl hl.1 rfl (lv_room (Nat.le_of_ble_eq_true rfl)) dX10_hungerFor_7 ⟨(Nat.le_of_ble_eq_true rfl), (Nat.le_of_ble_eq_true rfl)⟩) hP hD hK hS hA [0, 1, 2, 3, 4, 5, 6, 7, 8, 9, 10] [] rfl rfl (by decide) (by decide) (fun r7 _ H locs hw hP hD _ hS => ?_)
  obtain rfl := hw.symm
  have hP : va_P (dC, dI) vwCl ((a0, .inr (7, [.ref a5, g9, g10, g11, g12, g13, g14, g15, .int x_x.1, .int x_x.2])) :: bX6 a5 up kp p_p []) H := hP
  have hD : va_D A ((a0, .inr (7, [.ref a5, g9, g10, g11, g12, g13, g14, g15, .int x_x.1, .int x_x.2])) :: bX6 a5 up kp p_p []) := hD
  obtain ⟨o10, eo10⟩ : ∃ o, o = f_X10_refused o7 x_x := ⟨_, rfl⟩
  have h := nm_of h o10 eo10
  refine cl_i (wc := ([(a0, .inr (7, [.ref a5, g9, g10, g11, g12, g13, g14, g15, .int x_x.1, .int x_x.2]))])) (wr := (bX6 a5 up kp p_p [])) (va_runV (As := [.int o7]) (rest := []) ⟨hx, hb, hml, hown, hts⟩ (kfX10_refused l dC dI a0 o7 x_x (.ref a5) (g9) (g10) (g11) (g12) (g13) (g14) (g15) H.size o10 eo10.symm) (cwV 1 hts gfX10_hungerFor_1 rfl rfl rfl (by decide +kernel) ⟨(Nat.le_of_ble_eq_true rfl), (Nat.le_of_ble_eq_true rfl)⟩) (PV (hP.sub (ws' := ([(a0, .inr (7, [.ref a5, g9, g10, g11, g12, g13, g14, g15, .int x_x.1, .int x_x.2]))])) [0] rfl) (hK.sub (tys' := ([])) [] rfl) (hD.sub (ws' := ([(a0, .inr (7, [.ref a5, g9, g10, g11, g12, g13, g14, g15, .int x_x.1, .int x_x.2]))])) [0] (by decide) rfl) hN 0 rfl rfl) rfl rfl hl.1 rfl (lv_room (Nat.le_of_ble_eq_true rfl)) dX10_hungerFor_10 ⟨(Nat.le_of_ble_eq_true rfl), (Nat.le_of_ble_eq_true rfl)⟩) hP hD hK hS hA [0] [1, 2, 3, 4, 5, 6, 7, 8, 9, 10] rfl rfl (by decide) (by decide) (fun r10 _ H locs hw hP hD _ hS => ?_)
  obtain ⟨hw, br10⟩ := hw
  obtain rfl := hw
  have hP : va_P (dC, dI) vwCl (bX6 a5 up kp p_p ([(a0, .inr (7, [.ref a5, g9, g10, g11, g12, g13, g14, g15, .int o10.2.1, .int o10.2.2]))])) H := hP
  have hD : va_D A (bX6 a5 up kp p_p ([(a0, .inr (7, [.ref a5, g9, g10, g11, g12, g13, g14, g15, .int o10.2.1, .int o10.2.2]))])) := hD
  refine lv_if_eq (tgt := 18) hx hb dX10_hungerFor_13 (by decide) (fun c13 => ?_) (fun c13 => ?_)
  · have h := (if_pos c13).symm.trans h
    refine lv_iload_n hx hb dX10_hungerFor_18 rfl (lv_at hl 2 rfl) ?_
    refine lv_iload_n hx hb dX10_hungerFor_19 rfl (lv_at hl 3 rfl) ?_
    refine lv_iload hx hb dX10_hungerFor_20 (lv_at hl 4 rfl) ?_
    obtain ⟨o22, eo22⟩ : ∃ o, o = f_X10_question k2 k3 k4 := ⟨_, rfl⟩
    have h := nm_of h o22 eo22
    refine cl_i (wc := []) (wr := (bX6 a5 up kp p_p ([(a0, .inr (7, [.ref a5, g9, g10, g11, g12, g13, g14, g15, .int o10.2.1, .int o10.2.2]))]))) (va_runS (As := [.int k2, .int k3, .int k4]) (rest := []) ⟨hx, hb, hml, hown, hts⟩ (kfX10_question l dC dI k2 k3 k4 H.size o22 eo22.symm) (va_cwS 3 hts gfX10_hungerFor_2 rfl rfl rfl (by decide +kernel) ⟨(Nat.le_of_ble_eq_true rfl), (Nat.le_of_ble_eq_true rfl)⟩) (PS (hP.sub (ws' := []) [] rfl) (hK.sub (tys' := ([])) [] rfl) (hD.sub (ws' := []) [] (by decide) rfl) hN) rfl rfl hl.1 rfl (lv_room (Nat.le_of_ble_eq_true rfl)) dX10_hungerFor_22 ⟨(Nat.le_of_ble_eq_true rfl), (Nat.le_of_ble_eq_true rfl)⟩) hP hD hK hS hA [] [0, 1, 2, 3, 4, 5, 6, 7, 8, 9, 10] rfl rfl (by decide) (by decide) (fun r22 _ H locs hw hP hD _ hS => ?_)
    obtain rfl := hw.symm
    have hP : va_P (dC, dI) vwCl (bX6 a5 up kp p_p ([(a0, .inr (7, [.ref a5, g9, g10, g11, g12, g13, g14, g15, .int o10.2.1, .int o10.2.2]))])) H := hP
    have hD : va_D A (bX6 a5 up kp p_p ([(a0, .inr (7, [.ref a5, g9, g10, g11, g12, g13, g14, g15, .int o10.2.1, .int o10.2.2]))])) := hD
    refine lv_istore (lv' := [(5, .int o22), (0, .ref a0), (1, .int k1), (2, .int k2), (3, .int k3), (4, .int k4)]) hx hb dX10_hungerFor_25 hl (by decide) rfl (fun ls hl => ?_)
    refine lv_iconst (v := 0) hx hb dX10_hungerFor_27 (by decide) ?_
    refine lv_istore (lv' := [(6, .int 0), (5, .int o22), (0, .ref a0), (1, .int k1), (2, .int k2), (3, .int k3), (4, .int k4)]) hx hb dX10_hungerFor_28 hl (by decide) rfl (fun ls hl => ?_)
    have L30 : ∀ (n30 : Nat) (v30_l6 : Int32) (H : Heap) (locs : List Loc) (ls : Array Slot), f_X10_hungerFor_L30 k1 p_p o10 o22 n30 v30_l6 = some out → va_P (dC, dI) vwCl (bX6 a5 up kp p_p ([(a0, .inr (7, [.ref a5, g9, g10, g11, g12, g13, g14, g15, .int o10.2.1, .int o10.2.2]))])) H → va_D A (bX6 a5 up kp p_p ([(a0, .inr (7, [.ref a5, g9, g10, g11, g12, g13, g14, g15, .int o10.2.1, .int o10.2.2]))])) → va_S A s.heap H locs → lv_has ls 7 [(6, .int v30_l6), (5, .int o22), (0, .ref a0), (1, .int k1)] → W p l e (headSpec vfX10_hungerFor { frames := 4, cells := 0, slots := 0, locals := 91 }).room s m ([.ref a0, .int k1, .int k2, .int k3, .int k4]).toArray below meth c H locs 0 0 QQ (F0 m 30 ls []) := by
      intro n30
      induction n30 with
      | zero =>
        intro v30_l6 H locs ls h  _ _ _ _
        rw [f_X10_hungerFor_L30] at h
        cases h
      | succ n30 ih30 =>
        intro v30_l6 H locs ls h  hP hD hS hl
        rw [f_X10_hungerFor_L30] at h
        refine lv_iload hx hb dX10_hungerFor_30 (lv_at hl 0 rfl) ?_
        refine lv_bipush (v := 99) hx hb dX10_hungerFor_32 (by decide) ?_
        refine lv_icmp_gt (tgt := 63) hx hb dX10_hungerFor_34 (by decide) (fun c34 => ?_) (fun c34 => ?_)
        · have h := (if_pos c34).symm.trans h
          refine lv_bipush (v := (-2)) hx hb dX10_hungerFor_63 (by decide) ?_
          obtain rfl := Option.some.inj h
          have hP9 := hP.sub (ws' := ((a0, .inr (7, [.ref a5, g9, g10, g11, g12, g13, g14, g15, .int o10.2.1, .int o10.2.2])) :: bX6 a5 up kp p_p [])) [10, 0, 1, 2, 3, 4, 5, 6, 7, 8, 9] rfl
          have hD9 := hD.sub (ws' := ((a0, .inr (7, [.ref a5, g9, g10, g11, g12, g13, g14, g15, .int o10.2.1, .int o10.2.2])) :: bX6 a5 up kp p_p [])) [10, 0, 1, 2, 3, 4, 5, 6, 7, 8, 9] (by decide) rfl
          have hK9 := hK.sub (tys' := []) [] rfl
          rw [hQQ]
          exact W.iret (v := (-2 : Int32)) hx hb hr (fun t ht hW => ⟨⟨(-2 : Int32), (), rfl, rfl, by rw [ht]; exact hP9, va_K.moved hW.alike hK9, hD9⟩, hS.F ht⟩) hS.2.2 dX10_hungerFor_65
        · have h := (if_neg c34).symm.trans h
          refine lv_aload_n hx hb dX10_hungerFor_37 rfl (lv_at hl 2 rfl) ?_
          refine va_get (D := (dC, dI)) (ci := 7) (v := .ref a5) (C := RX10) (T := TX10) (N := 10) hx hb hts ifX10_hungerFor_X10 hown hK hP 10 rfl rfl 0 (by decide) (hts (.fieldLink RX10 10 "HookPier" "plan" "LHookPier$Plan;") (List.mem_of_getElem? (i := 10) rfl)) (fun _ h9 => h9) rfl dX10_hungerFor_38 ?_
          refine lv_iload_n hx hb dX10_hungerFor_41 rfl (lv_at hl 3 rfl) ?_
          refine lv_iload hx hb dX10_hungerFor_42 (lv_at hl 0 rfl) ?_
          refine lv_iload hx hb dX10_hungerFor_44 (lv_at hl 1 rfl) ?_
          obtain ⟨o46, eo46, h⟩ := bd_of h
          refine cl_i (wc := (bX6 a5 up kp p_p [])) (wr := ([(a0, .inr (7, [.ref a5, g9, g10, g11, g12, g13, g14, g15, .int o10.2.1, .int o10.2.2]))])) (va_runV (As := [.int k1, .int v30_l6, .int o22]) (rest := []) ⟨hx, hb, hml, hown, hts⟩ (kfX6_wishBy l dC dI a5 k1 v30_l6 o22 up kp p_p H.size o46 eo46) (cwV 3 hts gfX10_hungerFor_3 rfl rfl rfl (by decide +kernel) ⟨(Nat.le_of_ble_eq_true rfl), (Nat.le_of_ble_eq_true rfl)⟩) (PV (hP.sub (ws' := (bX6 a5 up kp p_p [])) [0, 1, 2, 3, 4, 5, 6, 7, 8, 9] rfl) (hK.sub (tys' := (tX6 kp ([]))) [0, 1, 2, 3, 4, 5, 6, 7, 8] rfl) (hD.sub (ws' := (bX6 a5 up kp p_p [])) [0, 1, 2, 3, 4, 5, 6, 7, 8, 9] (by decide) rfl) hN 0 rfl rfl) rfl rfl hl.1 rfl (lv_room (Nat.le_of_ble_eq_true rfl)) dX10_hungerFor_46 ⟨(Nat.le_of_ble_eq_true rfl), (Nat.le_of_ble_eq_true rfl)⟩) hP hD hK hS hA [0, 1, 2, 3, 4, 5, 6, 7, 8, 9] [10] rfl rfl (by decide) (by decide) (fun r46 _ H locs hw hP hD _ hS => ?_)
          obtain rfl := hw.symm
          have hP : va_P (dC, dI) vwCl ((a0, .inr (7, [.ref a5, g9, g10, g11, g12, g13, g14, g15, .int o10.2.1, .int o10.2.2])) :: bX6 a5 up kp p_p []) H := hP
          have hD : va_D A ((a0, .inr (7, [.ref a5, g9, g10, g11, g12, g13, g14, g15, .int o10.2.1, .int o10.2.2])) :: bX6 a5 up kp p_p []) := hD
          refine lv_bipush (v := 50) hx hb dX10_hungerFor_49 (by decide) ?_
          refine lv_icmp_lt (tgt := 57) hx hb dX10_hungerFor_51 (by decide) (fun c51 => ?_) (fun c51 => ?_)
          · have h := (if_pos c51).symm.trans h
            refine lv_iinc (v := (v30_l6 + (1 : Int32))) (lv' := [(6, .int (v30_l6 + (1 : Int32))), (5, .int o22), (0, .ref a0), (1, .int k1)]) hx hb dX10_hungerFor_57 hl (k := 0) rfl rfl (by decide) rfl (fun ls hl => ?_)
            refine lv_goto (tgt := 30) hx hb dX10_hungerFor_60 (by decide) ?_
            exact ih30 (v30_l6 + (1 : Int32)) H _ ls h  (hP.sub (ws' := (bX6 a5 up kp p_p ([(a0, .inr (7, [.ref a5, g9, g10, g11, g12, g13, g14, g15, .int o10.2.1, .int o10.2.2]))]))) [1, 2, 3, 4, 5, 6, 7, 8, 9, 10, 0] rfl) (hD.sub (ws' := (bX6 a5 up kp p_p ([(a0, .inr (7, [.ref a5, g9, g10, g11, g12, g13, g14, g15, .int o10.2.1, .int o10.2.2]))]))) [1, 2, 3, 4, 5, 6, 7, 8, 9, 10, 0] (by decide) rfl) hS (lv_sub hl [0, 1, 2, 3] rfl)
          · have h := (if_neg c51).symm.trans h
            refine lv_iload hx hb dX10_hungerFor_54 (lv_at hl 0 rfl) ?_
            obtain rfl := Option.some.inj h
            have hP9 := hP.sub (ws' := ((a0, .inr (7, [.ref a5, g9, g10, g11, g12, g13, g14, g15, .int o10.2.1, .int o10.2.2])) :: bX6 a5 up kp p_p [])) [0, 1, 2, 3, 4, 5, 6, 7, 8, 9, 10] rfl
            have hD9 := hD.sub (ws' := ((a0, .inr (7, [.ref a5, g9, g10, g11, g12, g13, g14, g15, .int o10.2.1, .int o10.2.2])) :: bX6 a5 up kp p_p [])) [0, 1, 2, 3, 4, 5, 6, 7, 8, 9, 10] (by decide) rfl
            have hK9 := hK.sub (tys' := []) [] rfl
            rw [hQQ]
            exact W.iret (v := v30_l6) hx hb hr (fun t ht hW => ⟨⟨v30_l6, (), rfl, rfl, by rw [ht]; exact hP9, va_K.moved hW.alike hK9, hD9⟩, hS.F ht⟩) hS.2.2 dX10_hungerFor_56
    exact L30 FU (0 : Int32) H _ ls h  hP hD hS (lv_sub hl [0, 1, 2, 3] rfl)
  · have h := (if_neg c13).symm.trans h
    refine lv_iconst (v := (-1)) hx hb dX10_hungerFor_16 (by decide) ?_
    obtain rfl := Option.some.inj h
    have hP9 := hP.sub (ws' := ((a0, .inr (7, [.ref a5, g9, g10, g11, g12, g13, g14, g15, .int o10.2.1, .int o10.2.2])) :: bX6 a5 up kp p_p [])) [10, 0, 1, 2, 3, 4, 5, 6, 7, 8, 9] rfl
    have hD9 := hD.sub (ws' := ((a0, .inr (7, [.ref a5, g9, g10, g11, g12, g13, g14, g15, .int o10.2.1, .int o10.2.2])) :: bX6 a5 up kp p_p [])) [10, 0, 1, 2, 3, 4, 5, 6, 7, 8, 9] (by decide) rfl
    have hK9 := hK.sub (tys' := []) [] rfl
    rw [hQQ]
    exact W.iret (v := (-1 : Int32)) hx hb hr (fun t ht hW => ⟨⟨(-1 : Int32), (), rfl, rfl, by rw [ht]; exact hP9, va_K.moved hW.alike hK9, hD9⟩, hS.F ht⟩) hS.2.2 dX10_hungerFor_17
theorem dX10_freeSpots_0 : decode cX10_freeSpots 0 = .ok (.aload_n 0, 1) := by decide +kernel
theorem dX10_freeSpots_1 : decode cX10_freeSpots 1 = .ok (.aload_n 0, 1) := by decide +kernel
theorem dX10_freeSpots_12 : decode cX10_freeSpots 12 = .ok (.iconst (-1), 1) := by decide +kernel
theorem dX10_freeSpots_13 : decode cX10_freeSpots 13 = .ok (.ireturn, 1) := by decide +kernel
theorem dX10_freeSpots_14 : decode cX10_freeSpots 14 = .ok (.iconst 0, 1) := by decide +kernel
theorem dX10_freeSpots_15 : decode cX10_freeSpots 15 = .ok (.istore_n 2, 1) := by decide +kernel
theorem dX10_freeSpots_16 : decode cX10_freeSpots 16 = .ok (.iconst 0, 1) := by decide +kernel
theorem dX10_freeSpots_17 : decode cX10_freeSpots 17 = .ok (.istore_n 3, 1) := by decide +kernel
theorem dX10_freeSpots_18 : decode cX10_freeSpots 18 = .ok (.iload_n 3, 1) := by decide +kernel
theorem dX10_freeSpots_19 : decode cX10_freeSpots 19 = .ok (.aload_n 0, 1) := by decide +kernel
theorem dX10_freeSpots_2 : decode cX10_freeSpots 2 = .ok (.iload_n 1, 1) := by decide +kernel
theorem dX10_freeSpots_20 : decode cX10_freeSpots 20 = .ok (.getfield 10, 3) := by decide +kernel
theorem dX10_freeSpots_23 : decode cX10_freeSpots 23 = .ok (.getfield 233, 3) := by decide +kernel
theorem dX10_freeSpots_26 : decode cX10_freeSpots 26 = .ok (.if_icmp .ge 31, 3) := by decide +kernel
theorem dX10_freeSpots_29 : decode cX10_freeSpots 29 = .ok (.aload_n 0, 1) := by decide +kernel
theorem dX10_freeSpots_3 : decode cX10_freeSpots 3 = .ok (.invokevirtual 143, 3) := by decide +kernel
theorem dX10_freeSpots_30 : decode cX10_freeSpots 30 = .ok (.getfield 29, 3) := by decide +kernel
theorem dX10_freeSpots_33 : decode cX10_freeSpots 33 = .ok (.aload_n 0, 1) := by decide +kernel
theorem dX10_freeSpots_34 : decode cX10_freeSpots 34 = .ok (.getfield 10, 3) := by decide +kernel
theorem dX10_freeSpots_37 : decode cX10_freeSpots 37 = .ok (.iload_n 1, 1) := by decide +kernel
theorem dX10_freeSpots_38 : decode cX10_freeSpots 38 = .ok (.iload_n 3, 1) := by decide +kernel
theorem dX10_freeSpots_39 : decode cX10_freeSpots 39 = .ok (.invokevirtual 165, 3) := by decide +kernel
theorem dX10_freeSpots_42 : decode cX10_freeSpots 42 = .ok (.ifCond .ne 9, 3) := by decide +kernel
theorem dX10_freeSpots_45 : decode cX10_freeSpots 45 = .ok (.iload_n 2, 1) := by decide +kernel
theorem dX10_freeSpots_46 : decode cX10_freeSpots 46 = .ok (.iconst 1, 1) := by decide +kernel
theorem dX10_freeSpots_47 : decode cX10_freeSpots 47 = .ok (.iload_n 3, 1) := by decide +kernel
theorem dX10_freeSpots_48 : decode cX10_freeSpots 48 = .ok (.ishl, 1) := by decide +kernel
theorem dX10_freeSpots_49 : decode cX10_freeSpots 49 = .ok (.ior, 1) := by decide +kernel
theorem dX10_freeSpots_50 : decode cX10_freeSpots 50 = .ok (.istore_n 2, 1) := by decide +kernel
theorem dX10_freeSpots_51 : decode cX10_freeSpots 51 = .ok (.iinc 3 1, 3) := by decide +kernel
theorem dX10_freeSpots_54 : decode cX10_freeSpots 54 = .ok (.goto (-36), 3) := by decide +kernel
theorem dX10_freeSpots_57 : decode cX10_freeSpots 57 = .ok (.iload_n 2, 1) := by decide +kernel
theorem dX10_freeSpots_58 : decode cX10_freeSpots 58 = .ok (.ireturn, 1) := by decide +kernel
theorem dX10_freeSpots_6 : decode cX10_freeSpots 6 = .ok (.invokevirtual 79, 3) := by decide +kernel
theorem dX10_freeSpots_9 : decode cX10_freeSpots 9 = .ok (.ifCond .eq 5, 3) := by decide +kernel
def vfX10_freeSpots : List Cond := .code yX10_freeSpots cX10_freeSpots 4 (some .int) :: ([.methodLink RX10 143 yX10_askerTrouble, .instanceMethod yX10_askerTrouble, .selects RX10 yX10_askerTrouble yX10_askerTrouble, .initialized RX10, .code yX10_askerTrouble cX10_askerTrouble 2 (some .int), .fieldLink RX10 10 "HookPier" "plan" "LHookPier$Plan;", .methodLink RX10 236 yX6_hasAsker, .instanceMethod yX6_hasAsker, .selects RX6 yX6_hasAsker yX6_hasAsker, .initialized RX6, .code yX6_hasAsker cX6_hasAsker 2 (some .boolean), .fieldLink RX6 27 "HookPier$Plan" "askers" "I", .code yX10_within cX10_within 3 (some .boolean), .static yX10_within, .methodLink RX10 79 yX10_refused, .instanceMethod yX10_refused, .selects RX10 yX10_refused yX10_refused, .code yX10_refused cX10_refused 2 (some .boolean), .fieldLink RX10 61 "HookPier" "troubleNow" "I", .fieldLink RX10 233 "HookPier$Plan" "spots" "I", .fieldLink RX10 29 "HookPier" "now" "LHookPier$Now;", .methodLink RX10 165 yX4_isTangled, .instanceMethod yX4_isTangled, .selects RX4 yX4_isTangled yX4_isTangled, .initialized RX4, .code yX4_isTangled cX4_isTangled 5 (some .boolean), .fieldLink RX4 44 "HookPier$Plan" "askers" "I", .fieldLink RX4 31 "HookPier$Now" "line" "[I", .code yX10_spotOf cX10_spotOf 1 (some .int), .static yX10_spotOf, .methodLink RX4 53 yX6_isTangle, .instanceMethod yX6_isTangle, .selects RX6 yX6_isTangle yX6_isTangle, .code yX6_isTangle cX6_isTangle 5 (some .boolean), .methodLink RX6 89 Lib.Math.abs.name, .static Lib.Math.abs.name, .initialized "java/lang/Math", .code Lib.Math.abs.name Lib.Math.abs.code 1 (some .int), .fieldLink RX6 39 "HookPier$Plan" "reach" "[I"] ++ wsX100 ++ wsX60 ++ wsX40)
theorem ifX10_freeSpots_X10 : ∀ w ∈ wsX100, w ∈ vfX10_freeSpots := fun _ h => List.mem_cons_of_mem _ (List.mem_append_left _ (List.mem_append_left _ (List.mem_append_right _ h)))
theorem ifX10_freeSpots_X6 : ∀ w ∈ wsX60, w ∈ vfX10_freeSpots := fun _ h => List.mem_cons_of_mem _ (List.mem_append_left _ (List.mem_append_right _ h))
theorem ifX10_freeSpots_X4 : ∀ w ∈ wsX40, w ∈ vfX10_freeSpots := fun _ h => List.mem_cons_of_mem _ (List.mem_append_right _ h)
set_option maxRecDepth 20000 in
theorem gfX10_freeSpots_0 : GoodIn vfX10_freeSpots (wsV RX10 143 RX10 yX10_askerTrouble vfX10_askerTrouble) := goodIn_app (goodIn_r [.methodLink RX10 143 yX10_askerTrouble, .instanceMethod yX10_askerTrouble, .selects RX10 yX10_askerTrouble yX10_askerTrouble, .initialized RX10] [1, 2, 3, 4] (by decide +kernel) (by decide +kernel)) (goodIn_ca (goodIn_ca (goodIn_r (.code yX10_askerTrouble cX10_askerTrouble 2 (some .int) :: [.fieldLink RX10 10 "HookPier" "plan" "LHookPier$Plan;", .methodLink RX10 236 yX6_hasAsker, .instanceMethod yX6_hasAsker, .selects RX6 yX6_hasAsker yX6_hasAsker, .initialized RX6, .code yX6_hasAsker cX6_hasAsker 2 (some .boolean), .fieldLink RX6 27 "HookPier$Plan" "askers" "I", .code yX10_within cX10_within 3 (some .boolean), .initialized RX10, .static yX10_within]) [5, 6, 7, 8, 9, 10, 11, 12, 13, 4, 14] (by decide +kernel) (by decide +kernel) : GoodIn vfX10_freeSpots (.code yX10_askerTrouble cX10_askerTrouble 2 (some .int) :: [.fieldLink RX10 10 "HookPier" "plan" "LHookPier$Plan;", .methodLink RX10 236 yX6_hasAsker, .instanceMethod yX6_hasAsker, .selects RX6 yX6_hasAsker yX6_hasAsker, .initialized RX6, .code yX6_hasAsker cX6_hasAsker 2 (some .boolean), .fieldLink RX6 27 "HookPier$Plan" "askers" "I", .code yX10_within cX10_within 3 (some .boolean), .initialized RX10, .static yX10_within])) (goodIn_sub ifX10_freeSpots_X10 (by decide +kernel))) (goodIn_sub ifX10_freeSpots_X6 (by decide +kernel)))
set_option maxRecDepth 20000 in
theorem gfX10_freeSpots_1 : GoodIn vfX10_freeSpots (wsV RX10 79 RX10 yX10_refused vfX10_refused) := goodIn_app (goodIn_r [.methodLink RX10 79 yX10_refused, .instanceMethod yX10_refused, .selects RX10 yX10_refused yX10_refused, .initialized RX10] [15, 16, 17, 4] (by decide +kernel) (by decide +kernel)) (goodIn_ca (goodIn_r (.code yX10_refused cX10_refused 2 (some .boolean) :: [.fieldLink RX10 61 "HookPier" "troubleNow" "I"]) [18, 19] (by decide +kernel) (by decide +kernel) : GoodIn vfX10_freeSpots (.code yX10_refused cX10_refused 2 (some .boolean) :: [.fieldLink RX10 61 "HookPier" "troubleNow" "I"])) (goodIn_sub ifX10_freeSpots_X10 (by decide +kernel)))
set_option maxRecDepth 20000 in
theorem gfX10_freeSpots_2 : GoodIn vfX10_freeSpots (wsV RX10 165 RX4 yX4_isTangled vfX4_isTangled) := goodIn_app (goodIn_r [.methodLink RX10 165 yX4_isTangled, .instanceMethod yX4_isTangled, .selects RX4 yX4_isTangled yX4_isTangled, .initialized RX4] [22, 23, 24, 25] (by decide +kernel) (by decide +kernel)) (goodIn_ca (goodIn_ca (goodIn_r (.code yX4_isTangled cX4_isTangled 5 (some .boolean) :: [.fieldLink RX4 44 "HookPier$Plan" "askers" "I", .fieldLink RX4 31 "HookPier$Now" "line" "[I", .code yX10_spotOf cX10_spotOf 1 (some .int), .initialized RX10, .static yX10_spotOf, .methodLink RX4 53 yX6_isTangle, .instanceMethod yX6_isTangle, .selects RX6 yX6_isTangle yX6_isTangle, .initialized RX6, .code yX6_isTangle cX6_isTangle 5 (some .boolean), .methodLink RX6 89 Lib.Math.abs.name, .static Lib.Math.abs.name, .initialized "java/lang/Math", .code Lib.Math.abs.name Lib.Math.abs.code 1 (some .int), .fieldLink RX6 39 "HookPier$Plan" "reach" "[I"]) [26, 27, 28, 29, 4, 30, 31, 32, 33, 10, 34, 35, 36, 37, 38, 39] (by decide +kernel) (by decide +kernel) : GoodIn vfX10_freeSpots (.code yX4_isTangled cX4_isTangled 5 (some .boolean) :: [.fieldLink RX4 44 "HookPier$Plan" "askers" "I", .fieldLink RX4 31 "HookPier$Now" "line" "[I", .code yX10_spotOf cX10_spotOf 1 (some .int), .initialized RX10, .static yX10_spotOf, .methodLink RX4 53 yX6_isTangle, .instanceMethod yX6_isTangle, .selects RX6 yX6_isTangle yX6_isTangle, .initialized RX6, .code yX6_isTangle cX6_isTangle 5 (some .boolean), .methodLink RX6 89 Lib.Math.abs.name, .static Lib.Math.abs.name, .initialized "java/lang/Math", .code Lib.Math.abs.name Lib.Math.abs.code 1 (some .int), .fieldLink RX6 39 "HookPier$Plan" "reach" "[I"])) (goodIn_sub ifX10_freeSpots_X6 (by decide +kernel))) (goodIn_sub ifX10_freeSpots_X4 (by decide +kernel)))
set_option maxHeartbeats 2000000 in
set_option maxRecDepth 100000 in
theorem kfX10_freeSpots (l : Launch) (dC : Nat → ClassId) (dI : Nat → Nat → Nat) (a0 : Nat) (k1 : Int32) (a2 : Nat) (a3 : Nat) (up : Nat → Nat) (kp : Nat → ClassId) (un : Nat → Nat) (kn : Nat → ClassId) (x_x : TX10_x) (g9 : Value) (g10 : Value) (g11 : Value) (g12 : Value) (g13 : Value) (g14 : Value) (p_p : TX6_p) (n_n : TX4_n) (sz : Nat) (out : (Int32 × TX10_x)) (h : f_X10_freeSpots k1 x_x p_p n_n = some out) : Met l yX10_freeSpots vfX10_freeSpots ({ frames := 3, cells := 0, slots := 0, locals := 69 }) (PC (dC, dI) [.ref a0, .int k1] sz ((a0, .inr (7, [.ref a2, g9, g10, .ref a3, g11, g12, g13, g14, .int x_x.1, .int x_x.2])) :: bX6 a2 up kp p_p (bX4 a3 un kn n_n [])) (tX6 kp (tX4 kn ([])))) (va_Qi (S := Unit) (fun (r : Int32) _ => r = out.1) (fun _ t => BC (dC, dI) (va_A ((a0, .inr (7, [.ref a2, g9, g10, .ref a3, g11, g12, g13, g14, .int x_x.1, .int x_x.2])) :: bX6 a2 up kp p_p (bX4 a3 un kn n_n [])) sz) ((a0, .inr (7, [.ref a2, g9, g10, .ref a3, g11, g12, g13, g14, .int out.2.1, .int out.2.2])) :: bX6 a2 up kp p_p (bX4 a3 un kn n_n [])) [] t) (va_A ((a0, .inr (7, [.ref a2, g9, g10, .ref a3, g11, g12, g13, g14, .int x_x.1, .int x_x.2])) :: bX6 a2 up kp p_p (bX4 a3 un kn n_n [])) sz)) 0 0 (va_A ((a0, .inr (7, [.ref a2, g9, g10, .ref a3, g11, g12, g13, g14, .int x_x.1, .int x_x.2])) :: bX6 a2 up kp p_p (bX4 a3 un kn n_n [])) sz) := by
  refine Met.ofW (cc := cX10_freeSpots) (maxL := 4) (ret := (some .int)) (by decide) rfl ?_
  intro p e s m args below meth c s₁ B0 hml hv
  obtain ⟨rfl, hsz, hP, hK, hD0, hN⟩ := hv
  have hx := B0.exec
  have hb := B0.bytes
  have hr := B0.returns
  have hts := atoms_spec (ws := vfX10_freeSpots) B0.pre
  have hown : s.vm.findClass RX10 = some m.cls := findClass_of_methodNamed B0.named
  have hlocks := B0.notSynchronized
  subst hsz
  have hD := hD0.self (sz := s.heap.size)
  generalize hAe : va_A ((a0, .inr (7, [.ref a2, g9, g10, .ref a3, g11, g12, g13, g14, .int x_x.1, .int x_x.2])) :: bX6 a2 up kp p_p (bX4 a3 un kn n_n [])) s.heap.size = A at hD ⊢
  have hA : ∀ q : Nat, s.heap.size ≤ q → A q := fun q h => by rw [← hAe]; exact Or.inr h
  have hS : va_S A s.heap s.heap [] := va_S.rf
  have hP : va_P (dC, dI) vwCl ((a0, .inr (7, [.ref a2, g9, g10, .ref a3, g11, g12, g13, g14, .int x_x.1, .int x_x.2])) :: bX6 a2 up kp p_p (bX4 a3 un kn n_n [])) s.heap := hP
  have hl := lv_entry ([.ref a0, .int k1]) (n := 4) (Nat.le_of_ble_eq_true rfl)
  rw [lg_entry_eq]
  generalize (lg_sl ([.ref a0, .int k1]) ++ List.replicate (4 - (lg_sl ([.ref a0, .int k1])).length) Slot.unset).toArray = ls at hl ⊢
  have hl : lv_has ls 4 [(0, .ref a0), (1, .int k1)] := hl
  refine W_q (fun QQ hQQ => ?_)
  rw [f_X10_freeSpots] at h
  refine lv_aload_n hx hb dX10_freeSpots_0 rfl (lv_at hl 0 rfl) ?_
  refine lv_aload_n hx hb dX10_freeSpots_1 rfl (lv_at hl 0 rfl) ?_
  refine lv_iload_n hx hb dX10_freeSpots_2 rfl (lv_at hl 1 rfl) ?_
  obtain ⟨o3, eo3⟩ : ∃ o, o = f_X10_askerTrouble k1 p_p := ⟨_, rfl⟩
  have h := nm_of h o3 eo3
  refine cl_i (wc := ((a0, .inr (7, [.ref a2, g9, g10, .ref a3, g11, g12, g13, g14, .int x_x.1, .int x_x.2])) :: bX6 a2 up kp p_p [])) (wr := (bX4 a3 un kn n_n [])) (va_runV (As := [.int k1]) (rest := [.ref a0]) ⟨hx, hb, hml, hown, hts⟩ (kfX10_askerTrouble l dC dI a0 k1 a2 up kp (g9) (g10) (.ref a3) (g11) (g12) (g13) (g14) (.int x_x.1) (.int x_x.2) p_p s.heap.size o3 eo3.symm) (cwV 1 hts gfX10_freeSpots_0 rfl rfl rfl (by decide +kernel) ⟨(Nat.le_of_ble_eq_true rfl), (Nat.le_of_ble_eq_true rfl)⟩) (PV (hP.sub (ws' := ((a0, .inr (7, [.ref a2, g9, g10, .ref a3, g11, g12, g13, g14, .int x_x.1, .int x_x.2])) :: bX6 a2 up kp p_p [])) [0, 1, 2, 3, 4, 5, 6, 7, 8, 9, 10] rfl) (hK.sub (tys' := (tX6 kp ([]))) [0, 1, 2, 3, 4, 5, 6, 7, 8] rfl) (hD.sub (ws' := ((a0, .inr (7, [.ref a2, g9, g10, .ref a3, g11, g12, g13, g14, .int x_x.1, .int x_x.2])) :: bX6 a2 up kp p_p [])) [0, 1, 2, 3, 4, 5, 6, 7, 8, 9, 10] (by decide) rfl) hN 0 rfl rfl) rfl rfl hl.1 rfl (lv_room (Nat.le_of_ble_eq_true rfl)) dX10_freeSpots_3 ⟨(Nat.le_of_ble_eq_true rfl), (Nat.le_of_ble_eq_true rfl)⟩) hP hD hK hS hA [0, 1, 2, 3, 4, 5, 6, 7, 8, 9, 10] [11, 12, 13, 14, 15] rfl rfl (by decide) (by decide) (fun r3 _ H locs hw hP hD _ hS => ?_)
  obtain rfl := hw.symm
  have hP : va_P (dC, dI) vwCl (bX4 a3 un kn n_n ((a0, .inr (7, [.ref a2, g9, g10, .ref a3, g11, g12, g13, g14, .int x_x.1, .int x_x.2])) :: bX6 a2 up kp p_p [])) H := hP
  have hD : va_D A (bX4 a3 un kn n_n ((a0, .inr (7, [.ref a2, g9, g10, .ref a3, g11, g12, g13, g14, .int x_x.1, .int x_x.2])) :: bX6 a2 up kp p_p [])) := hD
  obtain ⟨o6, eo6⟩ : ∃ o, o = f_X10_refused o3 x_x := ⟨_, rfl⟩
  have h := nm_of h o6 eo6
  refine cl_i (wc := ([(a0, .inr (7, [.ref a2, g9, g10, .ref a3, g11, g12, g13, g14, .int x_x.1, .int x_x.2]))])) (wr := (bX4 a3 un kn n_n (bX6 a2 up kp p_p []))) (va_runV (As := [.int o3]) (rest := []) ⟨hx, hb, hml, hown, hts⟩ (kfX10_refused l dC dI a0 o3 x_x (.ref a2) (g9) (g10) (.ref a3) (g11) (g12) (g13) (g14) H.size o6 eo6.symm) (cwV 1 hts gfX10_freeSpots_1 rfl rfl rfl (by decide +kernel) ⟨(Nat.le_of_ble_eq_true rfl), (Nat.le_of_ble_eq_true rfl)⟩) (PV (hP.sub (ws' := ([(a0, .inr (7, [.ref a2, g9, g10, .ref a3, g11, g12, g13, g14, .int x_x.1, .int x_x.2]))])) [5] rfl) (hK.sub (tys' := ([])) [] rfl) (hD.sub (ws' := ([(a0, .inr (7, [.ref a2, g9, g10, .ref a3, g11, g12, g13, g14, .int x_x.1, .int x_x.2]))])) [5] (by decide) rfl) hN 0 rfl rfl) rfl rfl hl.1 rfl (lv_room (Nat.le_of_ble_eq_true rfl)) dX10_freeSpots_6 ⟨(Nat.le_of_ble_eq_true rfl), (Nat.le_of_ble_eq_true rfl)⟩) hP hD hK hS hA [5] [0, 1, 2, 3, 4, 6, 7, 8, 9, 10, 11, 12, 13, 14, 15] rfl rfl (by decide) (by decide) (fun r6 _ H locs hw hP hD _ hS => ?_)
  obtain ⟨hw, br6⟩ := hw
  obtain rfl := hw
  have hP : va_P (dC, dI) vwCl (bX4 a3 un kn n_n (bX6 a2 up kp p_p ([(a0, .inr (7, [.ref a2, g9, g10, .ref a3, g11, g12, g13, g14, .int o6.2.1, .int o6.2.2]))]))) H := hP
  have hD : va_D A (bX4 a3 un kn n_n (bX6 a2 up kp p_p ([(a0, .inr (7, [.ref a2, g9, g10, .ref a3, g11, g12, g13, g14, .int o6.2.1, .int o6.2.2]))]))) := hD
  refine lv_if_eq (tgt := 14) hx hb dX10_freeSpots_9 (by decide) (fun c9 => ?_) (fun c9 => ?_)
  · have h := (if_pos c9).symm.trans h
    refine lv_iconst (v := 0) hx hb dX10_freeSpots_14 (by decide) ?_
    refine lv_istore_n (lv' := [(2, .int 0), (0, .ref a0), (1, .int k1)]) hx hb dX10_freeSpots_15 rfl hl (by decide) rfl (fun ls hl => ?_)
    refine lv_iconst (v := 0) hx hb dX10_freeSpots_16 (by decide) ?_
    refine lv_istore_n (lv' := [(3, .int 0), (2, .int 0), (0, .ref a0), (1, .int k1)]) hx hb dX10_freeSpots_17 rfl hl (by decide) rfl (fun ls hl => ?_)
    have L18 : ∀ (n18 : Nat) (v18_l3 : Int32) (v18_l2 : Int32) (H : Heap) (locs : List Loc) (ls : Array Slot), f_X10_freeSpots_L18 k1 p_p n_n o6 n18 v18_l3 v18_l2 = some out → va_P (dC, dI) vwCl (bX4 a3 un kn n_n (bX6 a2 up kp p_p ([(a0, .inr (7, [.ref a2, g9, g10, .ref a3, g11, g12, g13, g14, .int o6.2.1, .int o6.2.2]))]))) H → va_D A (bX4 a3 un kn n_n (bX6 a2 up kp p_p ([(a0, .inr (7, [.ref a2, g9, g10, .ref a3, g11, g12, g13, g14, .int o6.2.1, .int o6.2.2]))]))) → va_S A s.heap H locs → lv_has ls 4 [(3, .int v18_l3), (2, .int v18_l2), (0, .ref a0), (1, .int k1)] → W p l e (headSpec vfX10_freeSpots { frames := 3, cells := 0, slots := 0, locals := 69 }).room s m ([.ref a0, .int k1]).toArray below meth c H locs 0 0 QQ (F0 m 18 ls []) := by
      intro n18
      induction n18 with
      | zero =>
        intro v18_l3 v18_l2 H locs ls h  _ _ _ _
        rw [f_X10_freeSpots_L18] at h
        cases h
      | succ n18 ih18 =>
        intro v18_l3 v18_l2 H locs ls h  hP hD hS hl
        rw [f_X10_freeSpots_L18] at h
        refine lv_iload_n hx hb dX10_freeSpots_18 rfl (lv_at hl 0 rfl) ?_
        refine lv_aload_n hx hb dX10_freeSpots_19 rfl (lv_at hl 2 rfl) ?_
        refine va_get (D := (dC, dI)) (ci := 7) (v := .ref a2) (C := RX10) (T := TX10) (N := 10) hx hb hts ifX10_freeSpots_X10 hown hK hP 15 rfl rfl 0 (by decide) (hts (.fieldLink RX10 10 "HookPier" "plan" "LHookPier$Plan;") (List.mem_of_getElem? (i := 6) rfl)) (fun _ h9 => h9) rfl dX10_freeSpots_20 ?_
        refine va_get (D := (dC, dI)) (ci := 4) (v := .int p_p.1) (C := RX6) (T := TX6) (N := 18) hx hb hts ifX10_freeSpots_X6 hown hK hP 5 rfl rfl 0 (by decide) (hts (.fieldLink RX10 233 "HookPier$Plan" "spots" "I") (List.mem_of_getElem? (i := 20) rfl)) (fun _ h9 => h9) rfl dX10_freeSpots_23 ?_
        refine lv_icmp_ge (tgt := 57) hx hb dX10_freeSpots_26 (by decide) (fun c26 => ?_) (fun c26 => ?_)
        · have h := (if_pos c26).symm.trans h
          refine lv_iload_n hx hb dX10_freeSpots_57 rfl (lv_at hl 1 rfl) ?_
          obtain rfl := Option.some.inj h
          have hP9 := hP.sub (ws' := ((a0, .inr (7, [.ref a2, g9, g10, .ref a3, g11, g12, g13, g14, .int o6.2.1, .int o6.2.2])) :: bX6 a2 up kp p_p (bX4 a3 un kn n_n []))) [15, 5, 6, 7, 8, 9, 10, 11, 12, 13, 14, 0, 1, 2, 3, 4] rfl
          have hD9 := hD.sub (ws' := ((a0, .inr (7, [.ref a2, g9, g10, .ref a3, g11, g12, g13, g14, .int o6.2.1, .int o6.2.2])) :: bX6 a2 up kp p_p (bX4 a3 un kn n_n []))) [15, 5, 6, 7, 8, 9, 10, 11, 12, 13, 14, 0, 1, 2, 3, 4] (by decide) rfl
          have hK9 := hK.sub (tys' := []) [] rfl
          rw [hQQ]
          exact W.iret (v := v18_l2) hx hb hr (fun t ht hW => ⟨⟨v18_l2, (), rfl, rfl, by rw [ht]; exact hP9, va_K.moved hW.alike hK9, hD9⟩, hS.F ht⟩) hS.2.2 dX10_freeSpots_58
        · have h := (if_neg c26).symm.trans h
          refine lv_aload_n hx hb dX10_freeSpots_29 rfl (lv_at hl 2 rfl) ?_
          refine va_get (D := (dC, dI)) (ci := 7) (v := .ref a3) (C := RX10) (T := TX10) (N := 10) hx hb hts ifX10_freeSpots_X10 hown hK hP 15 rfl rfl 3 (by decide) (hts (.fieldLink RX10 29 "HookPier" "now" "LHookPier$Now;") (List.mem_of_getElem? (i := 21) rfl)) (fun _ h9 => h9) rfl dX10_freeSpots_30 ?_
          refine lv_aload_n hx hb dX10_freeSpots_33 rfl (lv_at hl 2 rfl) ?_
          refine va_get (D := (dC, dI)) (ci := 7) (v := .ref a2) (C := RX10) (T := TX10) (N := 10) hx hb hts ifX10_freeSpots_X10 hown hK hP 15 rfl rfl 0 (by decide) (hts (.fieldLink RX10 10 "HookPier" "plan" "LHookPier$Plan;") (List.mem_of_getElem? (i := 6) rfl)) (fun _ h9 => h9) rfl dX10_freeSpots_34 ?_
          refine lv_iload_n hx hb dX10_freeSpots_37 rfl (lv_at hl 3 rfl) ?_
          refine lv_iload_n hx hb dX10_freeSpots_38 rfl (lv_at hl 0 rfl) ?_
          obtain ⟨o39, eo39, h⟩ := bd_of h
          refine cl_i (wc := (bX4 a3 un kn n_n (bX6 a2 up kp p_p []))) (wr := ([(a0, .inr (7, [.ref a2, g9, g10, .ref a3, g11, g12, g13, g14, .int o6.2.1, .int o6.2.2]))])) (va_runV (As := [.ref a2, .int k1, .int v18_l3]) (rest := []) ⟨hx, hb, hml, hown, hts⟩ (kfX4_isTangled l dC dI a3 a2 k1 v18_l3 un kn up kp n_n p_p H.size o39 eo39) (cwV 3 hts gfX10_freeSpots_2 rfl rfl rfl (by decide +kernel) ⟨(Nat.le_of_ble_eq_true rfl), (Nat.le_of_ble_eq_true rfl)⟩) (PV (hP.sub (ws' := (bX4 a3 un kn n_n (bX6 a2 up kp p_p []))) [0, 1, 2, 3, 4, 5, 6, 7, 8, 9, 10, 11, 12, 13, 14] rfl) (hK.sub (tys' := (tX4 kn (tX6 kp ([])))) [9, 10, 11, 12, 0, 1, 2, 3, 4, 5, 6, 7, 8] rfl) (hD.sub (ws' := (bX4 a3 un kn n_n (bX6 a2 up kp p_p []))) [0, 1, 2, 3, 4, 5, 6, 7, 8, 9, 10, 11, 12, 13, 14] (by decide) rfl) hN 0 rfl rfl) rfl rfl hl.1 rfl (lv_room (Nat.le_of_ble_eq_true rfl)) dX10_freeSpots_39 ⟨(Nat.le_of_ble_eq_true rfl), (Nat.le_of_ble_eq_true rfl)⟩) hP hD hK hS hA [0, 1, 2, 3, 4, 5, 6, 7, 8, 9, 10, 11, 12, 13, 14] [15] rfl rfl (by decide) (by decide) (fun r39 _ H locs hw hP hD _ hS => ?_)
          obtain ⟨hw, br39⟩ := hw
          obtain rfl := hw.symm
          have hP : va_P (dC, dI) vwCl ((a0, .inr (7, [.ref a2, g9, g10, .ref a3, g11, g12, g13, g14, .int o6.2.1, .int o6.2.2])) :: bX4 a3 un kn n_n (bX6 a2 up kp p_p [])) H := hP
          have hD : va_D A ((a0, .inr (7, [.ref a2, g9, g10, .ref a3, g11, g12, g13, g14, .int o6.2.1, .int o6.2.2])) :: bX4 a3 un kn n_n (bX6 a2 up kp p_p [])) := hD
          have J51 : ∀ (v51_l2 : Int32) (H : Heap) (locs : List Loc) (ls : Array Slot), f_X10_freeSpots_J51 (f_X10_freeSpots_L18 k1 p_p n_n o6 n18) v18_l3 v51_l2 = some out → va_P (dC, dI) vwCl ((a0, .inr (7, [.ref a2, g9, g10, .ref a3, g11, g12, g13, g14, .int o6.2.1, .int o6.2.2])) :: bX4 a3 un kn n_n (bX6 a2 up kp p_p [])) H → va_D A ((a0, .inr (7, [.ref a2, g9, g10, .ref a3, g11, g12, g13, g14, .int o6.2.1, .int o6.2.2])) :: bX4 a3 un kn n_n (bX6 a2 up kp p_p [])) → va_S A s.heap H locs → lv_has ls 4 [(3, .int v18_l3), (2, .int v51_l2), (0, .ref a0), (1, .int k1)] → W p l e (headSpec vfX10_freeSpots { frames := 3, cells := 0, slots := 0, locals := 69 }).room s m ([.ref a0, .int k1]).toArray below meth c H locs 0 0 QQ (F0 m 51 ls []) := by
            intro v51_l2 H locs ls h  hP hD hS hl
            rw [f_X10_freeSpots_J51] at h
            refine lv_iinc (v := (v18_l3 + (1 : Int32))) (lv' := [(3, .int (v18_l3 + (1 : Int32))), (2, .int v51_l2), (0, .ref a0), (1, .int k1)]) hx hb dX10_freeSpots_51 hl (k := 0) rfl rfl (by decide) rfl (fun ls hl => ?_)
            refine lv_goto (tgt := 18) hx hb dX10_freeSpots_54 (by decide) ?_
            exact ih18 (v18_l3 + (1 : Int32)) v51_l2 H _ ls h  (hP.sub (ws' := (bX4 a3 un kn n_n (bX6 a2 up kp p_p ([(a0, .inr (7, [.ref a2, g9, g10, .ref a3, g11, g12, g13, g14, .int o6.2.1, .int o6.2.2]))])))) [1, 2, 3, 4, 5, 6, 7, 8, 9, 10, 11, 12, 13, 14, 15, 0] rfl) (hD.sub (ws' := (bX4 a3 un kn n_n (bX6 a2 up kp p_p ([(a0, .inr (7, [.ref a2, g9, g10, .ref a3, g11, g12, g13, g14, .int o6.2.1, .int o6.2.2]))])))) [1, 2, 3, 4, 5, 6, 7, 8, 9, 10, 11, 12, 13, 14, 15, 0] (by decide) rfl) hS (lv_sub hl [0, 1, 2, 3] rfl)
          refine lv_if_ne (tgt := 51) hx hb dX10_freeSpots_42 (by decide) (fun c42 => ?_) (fun c42 => ?_)
          · have h := (if_neg c42).symm.trans h
            exact J51 v18_l2 H _ ls h  hP hD hS (lv_sub hl [0, 1, 2, 3] rfl)
          · have h := (if_pos c42).symm.trans h
            refine lv_iload_n hx hb dX10_freeSpots_45 rfl (lv_at hl 1 rfl) ?_
            refine lv_iconst (v := 1) hx hb dX10_freeSpots_46 (by decide) ?_
            refine lv_iload_n hx hb dX10_freeSpots_47 rfl (lv_at hl 0 rfl) ?_
            refine lv_ishl hx hb dX10_freeSpots_48 ?_
            refine lv_ior hx hb dX10_freeSpots_49 ?_
            refine lv_istore_n (lv' := [(2, .int (v18_l2 ||| ((1 : Int32) <<< (v18_l3 &&& 31)))), (3, .int v18_l3), (0, .ref a0), (1, .int k1)]) hx hb dX10_freeSpots_50 rfl hl (by decide) rfl (fun ls hl => ?_)
            exact J51 (v18_l2 ||| ((1 : Int32) <<< (v18_l3 &&& 31))) H _ ls h  hP hD hS (lv_sub hl [1, 0, 2, 3] rfl)
    exact L18 FU (0 : Int32) (0 : Int32) H _ ls h  hP hD hS (lv_sub hl [0, 1, 2, 3] rfl)
  · have h := (if_neg c9).symm.trans h
    refine lv_iconst (v := (-1)) hx hb dX10_freeSpots_12 (by decide) ?_
    obtain rfl := Option.some.inj h
    have hP9 := hP.sub (ws' := ((a0, .inr (7, [.ref a2, g9, g10, .ref a3, g11, g12, g13, g14, .int o6.2.1, .int o6.2.2])) :: bX6 a2 up kp p_p (bX4 a3 un kn n_n []))) [15, 5, 6, 7, 8, 9, 10, 11, 12, 13, 14, 0, 1, 2, 3, 4] rfl
    have hD9 := hD.sub (ws' := ((a0, .inr (7, [.ref a2, g9, g10, .ref a3, g11, g12, g13, g14, .int o6.2.1, .int o6.2.2])) :: bX6 a2 up kp p_p (bX4 a3 un kn n_n []))) [15, 5, 6, 7, 8, 9, 10, 11, 12, 13, 14, 0, 1, 2, 3, 4] (by decide) rfl
    have hK9 := hK.sub (tys' := []) [] rfl
    rw [hQQ]
    exact W.iret (v := (-1 : Int32)) hx hb hr (fun t ht hW => ⟨⟨(-1 : Int32), (), rfl, rfl, by rw [ht]; exact hP9, va_K.moved hW.alike hK9, hD9⟩, hS.F ht⟩) hS.2.2 dX10_freeSpots_13
theorem dX10_tangles_0 : decode cX10_tangles 0 = .ok (.aload_n 0, 1) := by decide +kernel
theorem dX10_tangles_1 : decode cX10_tangles 1 = .ok (.getfield 10, 3) := by decide +kernel
theorem dX10_tangles_11 : decode cX10_tangles 11 = .ok (.aload_n 0, 1) := by decide +kernel
theorem dX10_tangles_12 : decode cX10_tangles 12 = .ok (.getfield 10, 3) := by decide +kernel
theorem dX10_tangles_15 : decode cX10_tangles 15 = .ok (.iload_n 3, 1) := by decide +kernel
theorem dX10_tangles_16 : decode cX10_tangles 16 = .ok (.invokevirtual 236, 3) := by decide +kernel
theorem dX10_tangles_19 : decode cX10_tangles 19 = .ok (.ifCond .eq 35, 3) := by decide +kernel
theorem dX10_tangles_22 : decode cX10_tangles 22 = .ok (.iload_n 1, 1) := by decide +kernel
theorem dX10_tangles_23 : decode cX10_tangles 23 = .ok (.iload_n 3, 1) := by decide +kernel
theorem dX10_tangles_24 : decode cX10_tangles 24 = .ok (.if_icmp .eq 30, 3) := by decide +kernel
theorem dX10_tangles_27 : decode cX10_tangles 27 = .ok (.aload_n 0, 1) := by decide +kernel
theorem dX10_tangles_28 : decode cX10_tangles 28 = .ok (.getfield 10, 3) := by decide +kernel
theorem dX10_tangles_31 : decode cX10_tangles 31 = .ok (.iload_n 2, 1) := by decide +kernel
theorem dX10_tangles_32 : decode cX10_tangles 32 = .ok (.invokevirtual 239, 3) := by decide +kernel
theorem dX10_tangles_35 : decode cX10_tangles 35 = .ok (.ifCond .eq 19, 3) := by decide +kernel
theorem dX10_tangles_38 : decode cX10_tangles 38 = .ok (.aload_n 0, 1) := by decide +kernel
theorem dX10_tangles_39 : decode cX10_tangles 39 = .ok (.getfield 10, 3) := by decide +kernel
theorem dX10_tangles_4 : decode cX10_tangles 4 = .ok (.iload_n 1, 1) := by decide +kernel
theorem dX10_tangles_42 : decode cX10_tangles 42 = .ok (.iload 4, 2) := by decide +kernel
theorem dX10_tangles_44 : decode cX10_tangles 44 = .ok (.invokevirtual 239, 3) := by decide +kernel
theorem dX10_tangles_47 : decode cX10_tangles 47 = .ok (.ifCond .eq 7, 3) := by decide +kernel
theorem dX10_tangles_5 : decode cX10_tangles 5 = .ok (.invokevirtual 236, 3) := by decide +kernel
theorem dX10_tangles_50 : decode cX10_tangles 50 = .ok (.iconst 1, 1) := by decide +kernel
theorem dX10_tangles_51 : decode cX10_tangles 51 = .ok (.goto 4, 3) := by decide +kernel
theorem dX10_tangles_54 : decode cX10_tangles 54 = .ok (.iconst 0, 1) := by decide +kernel
theorem dX10_tangles_55 : decode cX10_tangles 55 = .ok (.istore 5, 2) := by decide +kernel
theorem dX10_tangles_57 : decode cX10_tangles 57 = .ok (.aload_n 0, 1) := by decide +kernel
theorem dX10_tangles_58 : decode cX10_tangles 58 = .ok (.iload 5, 2) := by decide +kernel
theorem dX10_tangles_60 : decode cX10_tangles 60 = .ok (.ifCond .eq 7, 3) := by decide +kernel
theorem dX10_tangles_63 : decode cX10_tangles 63 = .ok (.iconst 0, 1) := by decide +kernel
theorem dX10_tangles_64 : decode cX10_tangles 64 = .ok (.goto 4, 3) := by decide +kernel
theorem dX10_tangles_67 : decode cX10_tangles 67 = .ok (.iconst 1, 1) := by decide +kernel
theorem dX10_tangles_68 : decode cX10_tangles 68 = .ok (.invokevirtual 79, 3) := by decide +kernel
theorem dX10_tangles_71 : decode cX10_tangles 71 = .ok (.ifCond .eq 5, 3) := by decide +kernel
theorem dX10_tangles_74 : decode cX10_tangles 74 = .ok (.iconst (-1), 1) := by decide +kernel
theorem dX10_tangles_75 : decode cX10_tangles 75 = .ok (.ireturn, 1) := by decide +kernel
theorem dX10_tangles_76 : decode cX10_tangles 76 = .ok (.aload_n 0, 1) := by decide +kernel
theorem dX10_tangles_77 : decode cX10_tangles 77 = .ok (.getfield 10, 3) := by decide +kernel
theorem dX10_tangles_8 : decode cX10_tangles 8 = .ok (.ifCond .eq 46, 3) := by decide +kernel
theorem dX10_tangles_80 : decode cX10_tangles 80 = .ok (.iload_n 1, 1) := by decide +kernel
theorem dX10_tangles_81 : decode cX10_tangles 81 = .ok (.iload_n 2, 1) := by decide +kernel
theorem dX10_tangles_82 : decode cX10_tangles 82 = .ok (.iload_n 3, 1) := by decide +kernel
theorem dX10_tangles_83 : decode cX10_tangles 83 = .ok (.iload 4, 2) := by decide +kernel
theorem dX10_tangles_85 : decode cX10_tangles 85 = .ok (.invokevirtual 242, 3) := by decide +kernel
theorem dX10_tangles_88 : decode cX10_tangles 88 = .ok (.ifCond .eq 7, 3) := by decide +kernel
theorem dX10_tangles_91 : decode cX10_tangles 91 = .ok (.iconst 1, 1) := by decide +kernel
theorem dX10_tangles_92 : decode cX10_tangles 92 = .ok (.goto 4, 3) := by decide +kernel
theorem dX10_tangles_95 : decode cX10_tangles 95 = .ok (.iconst 0, 1) := by decide +kernel
theorem dX10_tangles_96 : decode cX10_tangles 96 = .ok (.ireturn, 1) := by decide +kernel
def vfX10_tangles : List Cond := .code yX10_tangles cX10_tangles 6 (some .int) :: ([.fieldLink RX10 10 "HookPier" "plan" "LHookPier$Plan;", .methodLink RX10 236 yX6_hasAsker, .instanceMethod yX6_hasAsker, .selects RX6 yX6_hasAsker yX6_hasAsker, .initialized RX6, .code yX6_hasAsker cX6_hasAsker 2 (some .boolean), .fieldLink RX6 27 "HookPier$Plan" "askers" "I", .code yX10_within cX10_within 3 (some .boolean), .initialized RX10, .static yX10_within, .methodLink RX10 79 yX10_refused, .instanceMethod yX10_refused, .selects RX10 yX10_refused yX10_refused, .code yX10_refused cX10_refused 2 (some .boolean), .fieldLink RX10 61 "HookPier" "troubleNow" "I", .methodLink RX10 242 yX6_isTangle, .instanceMethod yX6_isTangle, .selects RX6 yX6_isTangle yX6_isTangle, .code yX6_isTangle cX6_isTangle 5 (some .boolean), .methodLink RX6 89 Lib.Math.abs.name, .static Lib.Math.abs.name, .initialized "java/lang/Math", .code Lib.Math.abs.name Lib.Math.abs.code 1 (some .int), .fieldLink RX6 39 "HookPier$Plan" "reach" "[I", .methodLink RX10 239 yX6_hasSpot, .instanceMethod yX6_hasSpot, .selects RX6 yX6_hasSpot yX6_hasSpot, .code yX6_hasSpot cX6_hasSpot 2 (some .boolean), .fieldLink RX6 9 "HookPier$Plan" "spots" "I"] ++ wsX100 ++ wsX60)
theorem ifX10_tangles_X10 : ∀ w ∈ wsX100, w ∈ vfX10_tangles := fun _ h => List.mem_cons_of_mem _ (List.mem_append_left _ (List.mem_append_right _ h))
theorem ifX10_tangles_X6 : ∀ w ∈ wsX60, w ∈ vfX10_tangles := fun _ h => List.mem_cons_of_mem _ (List.mem_append_right _ h)
set_option maxRecDepth 20000 in
theorem gfX10_tangles_0 : GoodIn vfX10_tangles (wsV RX10 236 RX6 yX6_hasAsker vfX6_hasAsker) := goodIn_app (goodIn_r [.methodLink RX10 236 yX6_hasAsker, .instanceMethod yX6_hasAsker, .selects RX6 yX6_hasAsker yX6_hasAsker, .initialized RX6] [2, 3, 4, 5] (by decide +kernel) (by decide +kernel)) (goodIn_ca (goodIn_r (.code yX6_hasAsker cX6_hasAsker 2 (some .boolean) :: [.fieldLink RX6 27 "HookPier$Plan" "askers" "I", .code yX10_within cX10_within 3 (some .boolean), .initialized RX10, .static yX10_within]) [6, 7, 8, 9, 10] (by decide +kernel) (by decide +kernel) : GoodIn vfX10_tangles (.code yX6_hasAsker cX6_hasAsker 2 (some .boolean) :: [.fieldLink RX6 27 "HookPier$Plan" "askers" "I", .code yX10_within cX10_within 3 (some .boolean), .initialized RX10, .static yX10_within])) (goodIn_sub ifX10_tangles_X6 (by decide +kernel)))
set_option maxRecDepth 20000 in
theorem gfX10_tangles_1 : GoodIn vfX10_tangles (wsV RX10 79 RX10 yX10_refused vfX10_refused) := goodIn_app (goodIn_r [.methodLink RX10 79 yX10_refused, .instanceMethod yX10_refused, .selects RX10 yX10_refused yX10_refused, .initialized RX10] [11, 12, 13, 9] (by decide +kernel) (by decide +kernel)) (goodIn_ca (goodIn_r (.code yX10_refused cX10_refused 2 (some .boolean) :: [.fieldLink RX10 61 "HookPier" "troubleNow" "I"]) [14, 15] (by decide +kernel) (by decide +kernel) : GoodIn vfX10_tangles (.code yX10_refused cX10_refused 2 (some .boolean) :: [.fieldLink RX10 61 "HookPier" "troubleNow" "I"])) (goodIn_sub ifX10_tangles_X10 (by decide +kernel)))
set_option maxRecDepth 20000 in
theorem gfX10_tangles_2 : GoodIn vfX10_tangles (wsV RX10 242 RX6 yX6_isTangle vfX6_isTangle) := goodIn_app (goodIn_r [.methodLink RX10 242 yX6_isTangle, .instanceMethod yX6_isTangle, .selects RX6 yX6_isTangle yX6_isTangle, .initialized RX6] [16, 17, 18, 5] (by decide +kernel) (by decide +kernel)) (goodIn_ca (goodIn_r (.code yX6_isTangle cX6_isTangle 5 (some .boolean) :: [.methodLink RX6 89 Lib.Math.abs.name, .static Lib.Math.abs.name, .initialized "java/lang/Math", .code Lib.Math.abs.name Lib.Math.abs.code 1 (some .int), .fieldLink RX6 39 "HookPier$Plan" "reach" "[I"]) [19, 20, 21, 22, 23, 24] (by decide +kernel) (by decide +kernel) : GoodIn vfX10_tangles (.code yX6_isTangle cX6_isTangle 5 (some .boolean) :: [.methodLink RX6 89 Lib.Math.abs.name, .static Lib.Math.abs.name, .initialized "java/lang/Math", .code Lib.Math.abs.name Lib.Math.abs.code 1 (some .int), .fieldLink RX6 39 "HookPier$Plan" "reach" "[I"])) (goodIn_sub ifX10_tangles_X6 (by decide +kernel)))
set_option maxRecDepth 20000 in
theorem gfX10_tangles_3 : GoodIn vfX10_tangles (wsV RX10 239 RX6 yX6_hasSpot vfX6_hasSpot) := goodIn_app (goodIn_r [.methodLink RX10 239 yX6_hasSpot, .instanceMethod yX6_hasSpot, .selects RX6 yX6_hasSpot yX6_hasSpot, .initialized RX6] [25, 26, 27, 5] (by decide +kernel) (by decide +kernel)) (goodIn_ca (goodIn_r (.code yX6_hasSpot cX6_hasSpot 2 (some .boolean) :: [.fieldLink RX6 9 "HookPier$Plan" "spots" "I", .code yX10_within cX10_within 3 (some .boolean), .initialized RX10, .static yX10_within]) [28, 29, 8, 9, 10] (by decide +kernel) (by decide +kernel) : GoodIn vfX10_tangles (.code yX6_hasSpot cX6_hasSpot 2 (some .boolean) :: [.fieldLink RX6 9 "HookPier$Plan" "spots" "I", .code yX10_within cX10_within 3 (some .boolean), .initialized RX10, .static yX10_within])) (goodIn_sub ifX10_tangles_X6 (by decide +kernel)))
set_option maxHeartbeats 2000000 in
set_option maxRecDepth 100000 in
theorem kfX10_tangles (l : Launch) (dC : Nat → ClassId) (dI : Nat → Nat → Nat) (a0 : Nat) (k1 : Int32) (k2 : Int32) (k3 : Int32) (k4 : Int32) (a5 : Nat) (up : Nat → Nat) (kp : Nat → ClassId) (x_x : TX10_x) (g9 : Value) (g10 : Value) (g11 : Value) (g12 : Value) (g13 : Value) (g14 : Value) (g15 : Value) (p_p : TX6_p) (sz : Nat) (out : (Int32 × TX10_x)) (h : f_X10_tangles k1 k2 k3 k4 x_x p_p = some out) : Met l yX10_tangles vfX10_tangles ({ frames := 2, cells := 0, slots := 0, locals := 45 }) (PC (dC, dI) [.ref a0, .int k1, .int k2, .int k3, .int k4] sz ((a0, .inr (7, [.ref a5, g9, g10, g11, g12, g13, g14, g15, .int x_x.1, .int x_x.2])) :: bX6 a5 up kp p_p []) (tX6 kp ([]))) (va_Qi (S := Unit) (fun (r : Int32) _ => r = out.1) (fun _ t => BC (dC, dI) (va_A ((a0, .inr (7, [.ref a5, g9, g10, g11, g12, g13, g14, g15, .int x_x.1, .int x_x.2])) :: bX6 a5 up kp p_p []) sz) ((a0, .inr (7, [.ref a5, g9, g10, g11, g12, g13, g14, g15, .int out.2.1, .int out.2.2])) :: bX6 a5 up kp p_p []) [] t) (va_A ((a0, .inr (7, [.ref a5, g9, g10, g11, g12, g13, g14, g15, .int x_x.1, .int x_x.2])) :: bX6 a5 up kp p_p []) sz)) 0 0 (va_A ((a0, .inr (7, [.ref a5, g9, g10, g11, g12, g13, g14, g15, .int x_x.1, .int x_x.2])) :: bX6 a5 up kp p_p []) sz) := by
  refine Met.ofW (cc := cX10_tangles) (maxL := 6) (ret := (some .int)) (by decide) rfl ?_
  intro p e s m args below meth c s₁ B0 hml hv
  obtain ⟨rfl, hsz, hP, hK, hD0, hN⟩ := hv
  have hx := B0.exec
  have hb := B0.bytes
  have hr := B0.returns
  have hts := atoms_spec (ws := vfX10_tangles) B0.pre
  have hown : s.vm.findClass RX10 = some m.cls := findClass_of_methodNamed B0.named
  have hlocks := B0.notSynchronized
  subst hsz
  have hD := hD0.self (sz := s.heap.size)
  generalize hAe : va_A ((a0, .inr (7, [.ref a5, g9, g10, g11, g12, g13, g14, g15, .int x_x.1, .int x_x.2])) :: bX6 a5 up kp p_p []) s.heap.size = A at hD ⊢
  have hA : ∀ q : Nat, s.heap.size ≤ q → A q := fun q h => by rw [← hAe]; exact Or.inr h
  have hS : va_S A s.heap s.heap [] := va_S.rf
  have hP : va_P (dC, dI) vwCl ((a0, .inr (7, [.ref a5, g9, g10, g11, g12, g13, g14, g15, .int x_x.1, .int x_x.2])) :: bX6 a5 up kp p_p []) s.heap := hP
  have hl := lv_entry ([.ref a0, .int k1, .int k2, .int k3, .int k4]) (n := 6) (Nat.le_of_ble_eq_true rfl)
  rw [lg_entry_eq]
  generalize (lg_sl ([.ref a0, .int k1, .int k2, .int k3, .int k4]) ++ List.replicate (6 - (lg_sl ([.ref a0, .int k1, .int k2, .int k3, .int k4])).length) Slot.unset).toArray = ls at hl ⊢
  have hl : lv_has ls 6 [(0, .ref a0), (1, .int k1), (2, .int k2), (3, .int k3), (4, .int k4)] := hl
  refine W_q (fun QQ hQQ => ?_)
  rw [f_X10_tangles] at h
  refine lv_aload_n hx hb dX10_tangles_0 rfl (lv_at hl 0 rfl) ?_
  refine va_get (D := (dC, dI)) (ci := 7) (v := .ref a5) (C := RX10) (T := TX10) (N := 10) hx hb hts ifX10_tangles_X10 hown hK hP 0 rfl rfl 0 (by decide) (hts (.fieldLink RX10 10 "HookPier" "plan" "LHookPier$Plan;") (List.mem_of_getElem? (i := 1) rfl)) (fun _ h9 => h9) rfl dX10_tangles_1 ?_
  refine lv_iload_n hx hb dX10_tangles_4 rfl (lv_at hl 1 rfl) ?_
  obtain ⟨o5, eo5⟩ : ∃ o, o = f_X6_hasAsker k1 p_p := ⟨_, rfl⟩
  have h := nm_of h o5 eo5
  refine cl_i (wc := (bX6 a5 up kp p_p [])) (wr := ([(a0, .inr (7, [.ref a5, g9, g10, g11, g12, g13, g14, g15, .int x_x.1, .int x_x.2]))])) (va_runV (As := [.int k1]) (rest := []) ⟨hx, hb, hml, hown, hts⟩ (kfX6_hasAsker l dC dI a5 k1 up kp p_p s.heap.size o5 eo5.symm) (cwV 1 hts gfX10_tangles_0 rfl rfl rfl (by decide +kernel) ⟨(Nat.le_of_ble_eq_true rfl), (Nat.le_of_ble_eq_true rfl)⟩) (PV (hP.sub (ws' := (bX6 a5 up kp p_p [])) [1, 2, 3, 4, 5, 6, 7, 8, 9, 10] rfl) (hK.sub (tys' := (tX6 kp ([]))) [0, 1, 2, 3, 4, 5, 6, 7, 8] rfl) (hD.sub (ws' := (bX6 a5 up kp p_p [])) [1, 2, 3, 4, 5, 6, 7, 8, 9, 10] (by decide) rfl) hN 0 rfl rfl) rfl rfl hl.1 rfl (lv_room (Nat.le_of_ble_eq_true rfl)) dX10_tangles_5 ⟨(Nat.le_of_ble_eq_true rfl), (Nat.le_of_ble_eq_true rfl)⟩) hP hD hK hS hA [1, 2, 3, 4, 5, 6, 7, 8, 9, 10] [0] rfl rfl (by decide) (by decide) (fun r5 _ H locs hw hP hD _ hS => ?_)
  obtain ⟨hw, br5⟩ := hw
  obtain rfl := hw.symm
  have hP : va_P (dC, dI) vwCl ((a0, .inr (7, [.ref a5, g9, g10, g11, g12, g13, g14, g15, .int x_x.1, .int x_x.2])) :: bX6 a5 up kp p_p []) H := hP
  have hD : va_D A ((a0, .inr (7, [.ref a5, g9, g10, g11, g12, g13, g14, g15, .int x_x.1, .int x_x.2])) :: bX6 a5 up kp p_p []) := hD
  have J55 : ∀ (v55_t0 : Int32) (H : Heap) (locs : List Loc) (ls : Array Slot), f_X10_tangles_J55 k1 k2 k3 k4 x_x p_p v55_t0 = some out → 0 ≤ v55_t0.toInt ∧ v55_t0.toInt ≤ 1 → va_P (dC, dI) vwCl ((a0, .inr (7, [.ref a5, g9, g10, g11, g12, g13, g14, g15, .int x_x.1, .int x_x.2])) :: bX6 a5 up kp p_p []) H → va_D A ((a0, .inr (7, [.ref a5, g9, g10, g11, g12, g13, g14, g15, .int x_x.1, .int x_x.2])) :: bX6 a5 up kp p_p []) → va_S A s.heap H locs → lv_has ls 6 [(0, .ref a0), (1, .int k1), (2, .int k2), (3, .int k3), (4, .int k4)] → W p l e (headSpec vfX10_tangles { frames := 2, cells := 0, slots := 0, locals := 45 }).room s m ([.ref a0, .int k1, .int k2, .int k3, .int k4]).toArray below meth c H locs 0 0 QQ (F0 m 55 ls [.int v55_t0]) := by
    intro v55_t0 H locs ls h zb_v55_t0 hP hD hS hl
    rw [f_X10_tangles_J55] at h
    refine lv_istore (lv' := [(5, .int v55_t0), (0, .ref a0), (1, .int k1), (2, .int k2), (3, .int k3), (4, .int k4)]) hx hb dX10_tangles_55 hl (by decide) rfl (fun ls hl => ?_)
    refine lv_aload_n hx hb dX10_tangles_57 rfl (lv_at hl 1 rfl) ?_
    refine lv_iload hx hb dX10_tangles_58 (lv_at hl 0 rfl) ?_
    have J68 : ∀ (v68_t1 : Int32) (H : Heap) (locs : List Loc) (ls : Array Slot), f_X10_tangles_J68 k1 k2 k3 k4 x_x p_p v68_t1 = some out → 0 ≤ v68_t1.toInt ∧ v68_t1.toInt ≤ 1 → va_P (dC, dI) vwCl ((a0, .inr (7, [.ref a5, g9, g10, g11, g12, g13, g14, g15, .int x_x.1, .int x_x.2])) :: bX6 a5 up kp p_p []) H → va_D A ((a0, .inr (7, [.ref a5, g9, g10, g11, g12, g13, g14, g15, .int x_x.1, .int x_x.2])) :: bX6 a5 up kp p_p []) → va_S A s.heap H locs → lv_has ls 6 [(0, .ref a0), (1, .int k1), (2, .int k2), (3, .int k3), (4, .int k4)] → W p l e (headSpec vfX10_tangles { frames := 2, cells := 0, slots := 0, locals := 45 }).room s m ([.ref a0, .int k1, .int k2, .int k3, .int k4]).toArray below meth c H locs 0 0 QQ (F0 m 68 ls [.int v68_t1, .ref a0]) := by
      intro v68_t1 H locs ls h zb_v68_t1 hP hD hS hl
      rw [f_X10_tangles_J68] at h
      obtain ⟨o68, eo68⟩ : ∃ o, o = f_X10_refused v68_t1 x_x := ⟨_, rfl⟩
      have h := nm_of h o68 eo68
      refine cl_i (wc := ([(a0, .inr (7, [.ref a5, g9, g10, g11, g12, g13, g14, g15, .int x_x.1, .int x_x.2]))])) (wr := (bX6 a5 up kp p_p [])) (va_runV (As := [.int v68_t1]) (rest := []) ⟨hx, hb, hml, hown, hts⟩ (kfX10_refused l dC dI a0 v68_t1 x_x (.ref a5) (g9) (g10) (g11) (g12) (g13) (g14) (g15) H.size o68 eo68.symm) (cwV 1 hts gfX10_tangles_1 rfl rfl rfl (by decide +kernel) ⟨(Nat.le_of_ble_eq_true rfl), (Nat.le_of_ble_eq_true rfl)⟩) (PV (hP.sub (ws' := ([(a0, .inr (7, [.ref a5, g9, g10, g11, g12, g13, g14, g15, .int x_x.1, .int x_x.2]))])) [0] rfl) (hK.sub (tys' := ([])) [] rfl) (hD.sub (ws' := ([(a0, .inr (7, [.ref a5, g9, g10, g11, g12, g13, g14, g15, .int x_x.1, .int x_x.2]))])) [0] (by decide) rfl) hN 0 rfl rfl) rfl rfl hl.1 rfl (lv_room (Nat.le_of_ble_eq_true rfl)) dX10_tangles_68 ⟨(Nat.le_of_ble_eq_true rfl), (Nat.le_of_ble_eq_true rfl)⟩) hP hD hK hS hA [0] [1, 2, 3, 4, 5, 6, 7, 8, 9, 10] rfl rfl (by decide) (by decide) (fun r68 _ H locs hw hP hD _ hS => ?_)
      obtain ⟨hw, br68⟩ := hw
      obtain rfl := hw
      have hP : va_P (dC, dI) vwCl (bX6 a5 up kp p_p ([(a0, .inr (7, [.ref a5, g9, g10, g11, g12, g13, g14, g15, .int o68.2.1, .int o68.2.2]))])) H := hP
      have hD : va_D A (bX6 a5 up kp p_p ([(a0, .inr (7, [.ref a5, g9, g10, g11, g12, g13, g14, g15, .int o68.2.1, .int o68.2.2]))])) := hD
      refine lv_if_eq (tgt := 76) hx hb dX10_tangles_71 (by decide) (fun c71 => ?_) (fun c71 => ?_)
      · have h := (if_pos c71).symm.trans h
        refine lv_aload_n hx hb dX10_tangles_76 rfl (lv_at hl 0 rfl) ?_
        refine va_get (D := (dC, dI)) (ci := 7) (v := .ref a5) (C := RX10) (T := TX10) (N := 10) hx hb hts ifX10_tangles_X10 hown hK hP 10 rfl rfl 0 (by decide) (hts (.fieldLink RX10 10 "HookPier" "plan" "LHookPier$Plan;") (List.mem_of_getElem? (i := 1) rfl)) (fun _ h9 => h9) rfl dX10_tangles_77 ?_
        refine lv_iload_n hx hb dX10_tangles_80 rfl (lv_at hl 1 rfl) ?_
        refine lv_iload_n hx hb dX10_tangles_81 rfl (lv_at hl 2 rfl) ?_
        refine lv_iload_n hx hb dX10_tangles_82 rfl (lv_at hl 3 rfl) ?_
        refine lv_iload hx hb dX10_tangles_83 (lv_at hl 4 rfl) ?_
        obtain ⟨o85, eo85, h⟩ := bd_of h
        refine cl_i (wc := (bX6 a5 up kp p_p [])) (wr := ([(a0, .inr (7, [.ref a5, g9, g10, g11, g12, g13, g14, g15, .int o68.2.1, .int o68.2.2]))])) (va_runV (As := [.int k1, .int k2, .int k3, .int k4]) (rest := []) ⟨hx, hb, hml, hown, hts⟩ (kfX6_isTangle l dC dI a5 k1 k2 k3 k4 up kp p_p H.size o85 eo85) (cwV 4 hts gfX10_tangles_2 rfl rfl rfl (by decide +kernel) ⟨(Nat.le_of_ble_eq_true rfl), (Nat.le_of_ble_eq_true rfl)⟩) (PV (hP.sub (ws' := (bX6 a5 up kp p_p [])) [0, 1, 2, 3, 4, 5, 6, 7, 8, 9] rfl) (hK.sub (tys' := (tX6 kp ([]))) [0, 1, 2, 3, 4, 5, 6, 7, 8] rfl) (hD.sub (ws' := (bX6 a5 up kp p_p [])) [0, 1, 2, 3, 4, 5, 6, 7, 8, 9] (by decide) rfl) hN 0 rfl rfl) rfl rfl hl.1 rfl (lv_room (Nat.le_of_ble_eq_true rfl)) dX10_tangles_85 ⟨(Nat.le_of_ble_eq_true rfl), (Nat.le_of_ble_eq_true rfl)⟩) hP hD hK hS hA [0, 1, 2, 3, 4, 5, 6, 7, 8, 9] [10] rfl rfl (by decide) (by decide) (fun r85 _ H locs hw hP hD _ hS => ?_)
        obtain ⟨hw, br85⟩ := hw
        obtain rfl := hw.symm
        have hP : va_P (dC, dI) vwCl ((a0, .inr (7, [.ref a5, g9, g10, g11, g12, g13, g14, g15, .int o68.2.1, .int o68.2.2])) :: bX6 a5 up kp p_p []) H := hP
        have hD : va_D A ((a0, .inr (7, [.ref a5, g9, g10, g11, g12, g13, g14, g15, .int o68.2.1, .int o68.2.2])) :: bX6 a5 up kp p_p []) := hD
        refine lv_if_eq (tgt := 95) hx hb dX10_tangles_88 (by decide) (fun c88 => ?_) (fun c88 => ?_)
        · have h := (if_pos c88).symm.trans h
          refine lv_iconst (v := 0) hx hb dX10_tangles_95 (by decide) ?_
          obtain rfl := Option.some.inj h
          have hP9 := hP.sub (ws' := ((a0, .inr (7, [.ref a5, g9, g10, g11, g12, g13, g14, g15, .int o68.2.1, .int o68.2.2])) :: bX6 a5 up kp p_p [])) [0, 1, 2, 3, 4, 5, 6, 7, 8, 9, 10] rfl
          have hD9 := hD.sub (ws' := ((a0, .inr (7, [.ref a5, g9, g10, g11, g12, g13, g14, g15, .int o68.2.1, .int o68.2.2])) :: bX6 a5 up kp p_p [])) [0, 1, 2, 3, 4, 5, 6, 7, 8, 9, 10] (by decide) rfl
          have hK9 := hK.sub (tys' := []) [] rfl
          rw [hQQ]
          exact W.iret (v := (0 : Int32)) hx hb hr (fun t ht hW => ⟨⟨(0 : Int32), (), rfl, rfl, by rw [ht]; exact hP9, va_K.moved hW.alike hK9, hD9⟩, hS.F ht⟩) hS.2.2 dX10_tangles_96
        · have h := (if_neg c88).symm.trans h
          refine lv_iconst (v := 1) hx hb dX10_tangles_91 (by decide) ?_
          refine lv_goto (tgt := 96) hx hb dX10_tangles_92 (by decide) ?_
          obtain rfl := Option.some.inj h
          have hP9 := hP.sub (ws' := ((a0, .inr (7, [.ref a5, g9, g10, g11, g12, g13, g14, g15, .int o68.2.1, .int o68.2.2])) :: bX6 a5 up kp p_p [])) [0, 1, 2, 3, 4, 5, 6, 7, 8, 9, 10] rfl
          have hD9 := hD.sub (ws' := ((a0, .inr (7, [.ref a5, g9, g10, g11, g12, g13, g14, g15, .int o68.2.1, .int o68.2.2])) :: bX6 a5 up kp p_p [])) [0, 1, 2, 3, 4, 5, 6, 7, 8, 9, 10] (by decide) rfl
          have hK9 := hK.sub (tys' := []) [] rfl
          rw [hQQ]
          exact W.iret (v := (1 : Int32)) hx hb hr (fun t ht hW => ⟨⟨(1 : Int32), (), rfl, rfl, by rw [ht]; exact hP9, va_K.moved hW.alike hK9, hD9⟩, hS.F ht⟩) hS.2.2 dX10_tangles_96
      · have h := (if_neg c71).symm.trans h
        refine lv_iconst (v := (-1)) hx hb dX10_tangles_74 (by decide) ?_
        obtain rfl := Option.some.inj h
        have hP9 := hP.sub (ws' := ((a0, .inr (7, [.ref a5, g9, g10, g11, g12, g13, g14, g15, .int o68.2.1, .int o68.2.2])) :: bX6 a5 up kp p_p [])) [10, 0, 1, 2, 3, 4, 5, 6, 7, 8, 9] rfl
        have hD9 := hD.sub (ws' := ((a0, .inr (7, [.ref a5, g9, g10, g11, g12, g13, g14, g15, .int o68.2.1, .int o68.2.2])) :: bX6 a5 up kp p_p [])) [10, 0, 1, 2, 3, 4, 5, 6, 7, 8, 9] (by decide) rfl
        have hK9 := hK.sub (tys' := []) [] rfl
        rw [hQQ]
        exact W.iret (v := (-1 : Int32)) hx hb hr (fun t ht hW => ⟨⟨(-1 : Int32), (), rfl, rfl, by rw [ht]; exact hP9, va_K.moved hW.alike hK9, hD9⟩, hS.F ht⟩) hS.2.2 dX10_tangles_75
    refine lv_if_eq (tgt := 67) hx hb dX10_tangles_60 (by decide) (fun c60 => ?_) (fun c60 => ?_)
    · have h := (if_pos c60).symm.trans h
      refine lv_iconst (v := 1) hx hb dX10_tangles_67 (by decide) ?_
      exact J68 (1 : Int32) H _ ls h (by decide) hP hD hS (lv_sub hl [1, 2, 3, 4, 5] rfl)
    · have h := (if_neg c60).symm.trans h
      refine lv_iconst (v := 0) hx hb dX10_tangles_63 (by decide) ?_
      refine lv_goto (tgt := 68) hx hb dX10_tangles_64 (by decide) ?_
      exact J68 (0 : Int32) H _ ls h (by decide) hP hD hS (lv_sub hl [1, 2, 3, 4, 5] rfl)
  have J54 : ∀ (H : Heap) (locs : List Loc) (ls : Array Slot), f_X10_tangles_J54 k1 k2 k3 k4 x_x p_p = some out → va_P (dC, dI) vwCl ((a0, .inr (7, [.ref a5, g9, g10, g11, g12, g13, g14, g15, .int x_x.1, .int x_x.2])) :: bX6 a5 up kp p_p []) H → va_D A ((a0, .inr (7, [.ref a5, g9, g10, g11, g12, g13, g14, g15, .int x_x.1, .int x_x.2])) :: bX6 a5 up kp p_p []) → va_S A s.heap H locs → lv_has ls 6 [(0, .ref a0), (1, .int k1), (2, .int k2), (3, .int k3), (4, .int k4)] → W p l e (headSpec vfX10_tangles { frames := 2, cells := 0, slots := 0, locals := 45 }).room s m ([.ref a0, .int k1, .int k2, .int k3, .int k4]).toArray below meth c H locs 0 0 QQ (F0 m 54 ls []) := by
    intro  H locs ls h  hP hD hS hl
    rw [f_X10_tangles_J54] at h
    refine lv_iconst (v := 0) hx hb dX10_tangles_54 (by decide) ?_
    exact J55 (0 : Int32) H _ ls h (by decide) hP hD hS (lv_sub hl [0, 1, 2, 3, 4] rfl)
  refine lv_if_eq (tgt := 54) hx hb dX10_tangles_8 (by decide) (fun c8 => ?_) (fun c8 => ?_)
  · have h := (if_pos c8).symm.trans h
    exact J54  H _ ls h  hP hD hS (lv_sub hl [0, 1, 2, 3, 4] rfl)
  · have h := (if_neg c8).symm.trans h
    refine lv_aload_n hx hb dX10_tangles_11 rfl (lv_at hl 0 rfl) ?_
    refine va_get (D := (dC, dI)) (ci := 7) (v := .ref a5) (C := RX10) (T := TX10) (N := 10) hx hb hts ifX10_tangles_X10 hown hK hP 0 rfl rfl 0 (by decide) (hts (.fieldLink RX10 10 "HookPier" "plan" "LHookPier$Plan;") (List.mem_of_getElem? (i := 1) rfl)) (fun _ h9 => h9) rfl dX10_tangles_12 ?_
    refine lv_iload_n hx hb dX10_tangles_15 rfl (lv_at hl 3 rfl) ?_
    obtain ⟨o16, eo16⟩ : ∃ o, o = f_X6_hasAsker k3 p_p := ⟨_, rfl⟩
    have h := nm_of h o16 eo16
    refine cl_i (wc := (bX6 a5 up kp p_p [])) (wr := ([(a0, .inr (7, [.ref a5, g9, g10, g11, g12, g13, g14, g15, .int x_x.1, .int x_x.2]))])) (va_runV (As := [.int k3]) (rest := []) ⟨hx, hb, hml, hown, hts⟩ (kfX6_hasAsker l dC dI a5 k3 up kp p_p H.size o16 eo16.symm) (cwV 1 hts gfX10_tangles_0 rfl rfl rfl (by decide +kernel) ⟨(Nat.le_of_ble_eq_true rfl), (Nat.le_of_ble_eq_true rfl)⟩) (PV (hP.sub (ws' := (bX6 a5 up kp p_p [])) [1, 2, 3, 4, 5, 6, 7, 8, 9, 10] rfl) (hK.sub (tys' := (tX6 kp ([]))) [0, 1, 2, 3, 4, 5, 6, 7, 8] rfl) (hD.sub (ws' := (bX6 a5 up kp p_p [])) [1, 2, 3, 4, 5, 6, 7, 8, 9, 10] (by decide) rfl) hN 0 rfl rfl) rfl rfl hl.1 rfl (lv_room (Nat.le_of_ble_eq_true rfl)) dX10_tangles_16 ⟨(Nat.le_of_ble_eq_true rfl), (Nat.le_of_ble_eq_true rfl)⟩) hP hD hK hS hA [1, 2, 3, 4, 5, 6, 7, 8, 9, 10] [0] rfl rfl (by decide) (by decide) (fun r16 _ H locs hw hP hD _ hS => ?_)
    obtain ⟨hw, br16⟩ := hw
    obtain rfl := hw.symm
    have hP : va_P (dC, dI) vwCl ((a0, .inr (7, [.ref a5, g9, g10, g11, g12, g13, g14, g15, .int x_x.1, .int x_x.2])) :: bX6 a5 up kp p_p []) H := hP
    have hD : va_D A ((a0, .inr (7, [.ref a5, g9, g10, g11, g12, g13, g14, g15, .int x_x.1, .int x_x.2])) :: bX6 a5 up kp p_p []) := hD
    refine lv_if_eq (tgt := 54) hx hb dX10_tangles_19 (by decide) (fun c19 => ?_) (fun c19 => ?_)
    · have h := (if_pos c19).symm.trans h
      exact J54  H _ ls h  hP hD hS (lv_sub hl [0, 1, 2, 3, 4] rfl)
    · have h := (if_neg c19).symm.trans h
      refine lv_iload_n hx hb dX10_tangles_22 rfl (lv_at hl 1 rfl) ?_
      refine lv_iload_n hx hb dX10_tangles_23 rfl (lv_at hl 3 rfl) ?_
      refine lv_icmp_eq (tgt := 54) hx hb dX10_tangles_24 (by decide) (fun c24 => ?_) (fun c24 => ?_)
      · have h := (if_pos c24).symm.trans h
        exact J54  H _ ls h  hP hD hS (lv_sub hl [0, 1, 2, 3, 4] rfl)
      · have h := (if_neg c24).symm.trans h
        refine lv_aload_n hx hb dX10_tangles_27 rfl (lv_at hl 0 rfl) ?_
        refine va_get (D := (dC, dI)) (ci := 7) (v := .ref a5) (C := RX10) (T := TX10) (N := 10) hx hb hts ifX10_tangles_X10 hown hK hP 0 rfl rfl 0 (by decide) (hts (.fieldLink RX10 10 "HookPier" "plan" "LHookPier$Plan;") (List.mem_of_getElem? (i := 1) rfl)) (fun _ h9 => h9) rfl dX10_tangles_28 ?_
        refine lv_iload_n hx hb dX10_tangles_31 rfl (lv_at hl 2 rfl) ?_
        obtain ⟨o32, eo32⟩ : ∃ o, o = f_X6_hasSpot k2 p_p := ⟨_, rfl⟩
        have h := nm_of h o32 eo32
        refine cl_i (wc := (bX6 a5 up kp p_p [])) (wr := ([(a0, .inr (7, [.ref a5, g9, g10, g11, g12, g13, g14, g15, .int x_x.1, .int x_x.2]))])) (va_runV (As := [.int k2]) (rest := []) ⟨hx, hb, hml, hown, hts⟩ (kfX6_hasSpot l dC dI a5 k2 up kp p_p H.size o32 eo32.symm) (cwV 1 hts gfX10_tangles_3 rfl rfl rfl (by decide +kernel) ⟨(Nat.le_of_ble_eq_true rfl), (Nat.le_of_ble_eq_true rfl)⟩) (PV (hP.sub (ws' := (bX6 a5 up kp p_p [])) [1, 2, 3, 4, 5, 6, 7, 8, 9, 10] rfl) (hK.sub (tys' := (tX6 kp ([]))) [0, 1, 2, 3, 4, 5, 6, 7, 8] rfl) (hD.sub (ws' := (bX6 a5 up kp p_p [])) [1, 2, 3, 4, 5, 6, 7, 8, 9, 10] (by decide) rfl) hN 0 rfl rfl) rfl rfl hl.1 rfl (lv_room (Nat.le_of_ble_eq_true rfl)) dX10_tangles_32 ⟨(Nat.le_of_ble_eq_true rfl), (Nat.le_of_ble_eq_true rfl)⟩) hP hD hK hS hA [1, 2, 3, 4, 5, 6, 7, 8, 9, 10] [0] rfl rfl (by decide) (by decide) (fun r32 _ H locs hw hP hD _ hS => ?_)
        obtain ⟨hw, br32⟩ := hw
        obtain rfl := hw.symm
        have hP : va_P (dC, dI) vwCl ((a0, .inr (7, [.ref a5, g9, g10, g11, g12, g13, g14, g15, .int x_x.1, .int x_x.2])) :: bX6 a5 up kp p_p []) H := hP
        have hD : va_D A ((a0, .inr (7, [.ref a5, g9, g10, g11, g12, g13, g14, g15, .int x_x.1, .int x_x.2])) :: bX6 a5 up kp p_p []) := hD
        refine lv_if_eq (tgt := 54) hx hb dX10_tangles_35 (by decide) (fun c35 => ?_) (fun c35 => ?_)
        · have h := (if_pos c35).symm.trans h
          exact J54  H _ ls h  hP hD hS (lv_sub hl [0, 1, 2, 3, 4] rfl)
        · have h := (if_neg c35).symm.trans h
          refine lv_aload_n hx hb dX10_tangles_38 rfl (lv_at hl 0 rfl) ?_
          refine va_get (D := (dC, dI)) (ci := 7) (v := .ref a5) (C := RX10) (T := TX10) (N := 10) hx hb hts ifX10_tangles_X10 hown hK hP 0 rfl rfl 0 (by decide) (hts (.fieldLink RX10 10 "HookPier" "plan" "LHookPier$Plan;") (List.mem_of_getElem? (i := 1) rfl)) (fun _ h9 => h9) rfl dX10_tangles_39 ?_
          refine lv_iload hx hb dX10_tangles_42 (lv_at hl 4 rfl) ?_
          obtain ⟨o44, eo44⟩ : ∃ o, o = f_X6_hasSpot k4 p_p := ⟨_, rfl⟩
          have h := nm_of h o44 eo44
          refine cl_i (wc := (bX6 a5 up kp p_p [])) (wr := ([(a0, .inr (7, [.ref a5, g9, g10, g11, g12, g13, g14, g15, .int x_x.1, .int x_x.2]))])) (va_runV (As := [.int k4]) (rest := []) ⟨hx, hb, hml, hown, hts⟩ (kfX6_hasSpot l dC dI a5 k4 up kp p_p H.size o44 eo44.symm) (cwV 1 hts gfX10_tangles_3 rfl rfl rfl (by decide +kernel) ⟨(Nat.le_of_ble_eq_true rfl), (Nat.le_of_ble_eq_true rfl)⟩) (PV (hP.sub (ws' := (bX6 a5 up kp p_p [])) [1, 2, 3, 4, 5, 6, 7, 8, 9, 10] rfl) (hK.sub (tys' := (tX6 kp ([]))) [0, 1, 2, 3, 4, 5, 6, 7, 8] rfl) (hD.sub (ws' := (bX6 a5 up kp p_p [])) [1, 2, 3, 4, 5, 6, 7, 8, 9, 10] (by decide) rfl) hN 0 rfl rfl) rfl rfl hl.1 rfl (lv_room (Nat.le_of_ble_eq_true rfl)) dX10_tangles_44 ⟨(Nat.le_of_ble_eq_true rfl), (Nat.le_of_ble_eq_true rfl)⟩) hP hD hK hS hA [1, 2, 3, 4, 5, 6, 7, 8, 9, 10] [0] rfl rfl (by decide) (by decide) (fun r44 _ H locs hw hP hD _ hS => ?_)
          obtain ⟨hw, br44⟩ := hw
          obtain rfl := hw.symm
          have hP : va_P (dC, dI) vwCl ((a0, .inr (7, [.ref a5, g9, g10, g11, g12, g13, g14, g15, .int x_x.1, .int x_x.2])) :: bX6 a5 up kp p_p []) H := hP
          have hD : va_D A ((a0, .inr (7, [.ref a5, g9, g10, g11, g12, g13, g14, g15, .int x_x.1, .int x_x.2])) :: bX6 a5 up kp p_p []) := hD
          refine lv_if_eq (tgt := 54) hx hb dX10_tangles_47 (by decide) (fun c47 => ?_) (fun c47 => ?_)
          · have h := (if_pos c47).symm.trans h
            exact J54  H _ ls h  hP hD hS (lv_sub hl [0, 1, 2, 3, 4] rfl)
          · have h := (if_neg c47).symm.trans h
            refine lv_iconst (v := 1) hx hb dX10_tangles_50 (by decide) ?_
            refine lv_goto (tgt := 55) hx hb dX10_tangles_51 (by decide) ?_
            exact J55 (1 : Int32) H _ ls h (by decide) hP hD hS (lv_sub hl [0, 1, 2, 3, 4] rfl)
theorem dX10_everyAsker_0 : decode cX10_everyAsker 0 = .ok (.iconst 1, 1) := by decide +kernel
theorem dX10_everyAsker_1 : decode cX10_everyAsker 1 = .ok (.aload_n 0, 1) := by decide +kernel
theorem dX10_everyAsker_10 : decode cX10_everyAsker 10 = .ok (.isub, 1) := by decide +kernel
theorem dX10_everyAsker_11 : decode cX10_everyAsker 11 = .ok (.ireturn, 1) := by decide +kernel
theorem dX10_everyAsker_2 : decode cX10_everyAsker 2 = .ok (.getfield 10, 3) := by decide +kernel
theorem dX10_everyAsker_5 : decode cX10_everyAsker 5 = .ok (.getfield 246, 3) := by decide +kernel
theorem dX10_everyAsker_8 : decode cX10_everyAsker 8 = .ok (.ishl, 1) := by decide +kernel
theorem dX10_everyAsker_9 : decode cX10_everyAsker 9 = .ok (.iconst 1, 1) := by decide +kernel
def vfX10_everyAsker : List Cond := .code yX10_everyAsker cX10_everyAsker 1 (some .int) :: ([.fieldLink RX10 10 "HookPier" "plan" "LHookPier$Plan;", .fieldLink RX10 246 "HookPier$Plan" "askers" "I"] ++ wsX100 ++ wsX60)
theorem ifX10_everyAsker_X10 : ∀ w ∈ wsX100, w ∈ vfX10_everyAsker := fun _ h => List.mem_cons_of_mem _ (List.mem_append_left _ (List.mem_append_right _ h))
theorem ifX10_everyAsker_X6 : ∀ w ∈ wsX60, w ∈ vfX10_everyAsker := fun _ h => List.mem_cons_of_mem _ (List.mem_append_right _ h)
set_option maxHeartbeats 2000000 in
set_option maxRecDepth 100000 in
theorem kfX10_everyAsker (l : Launch) (dC : Nat → ClassId) (dI : Nat → Nat → Nat) (a0 : Nat) (a1 : Nat) (up : Nat → Nat) (kp : Nat → ClassId) (g4 : Value) (g5 : Value) (g6 : Value) (g7 : Value) (g8 : Value) (g9 : Value) (g10 : Value) (g11 : Value) (g12 : Value) (p_p : TX6_p) (sz : Nat) (out : Int32) (h : f_X10_everyAsker p_p = out) : Met l yX10_everyAsker vfX10_everyAsker ({ frames := 0, cells := 0, slots := 0, locals := 0 }) (PC (dC, dI) [.ref a0] sz ((a0, .inr (7, [.ref a1, g4, g5, g6, g7, g8, g9, g10, g11, g12])) :: bX6 a1 up kp p_p []) (tX6 kp ([]))) (va_Qi (S := Unit) (fun (r : Int32) _ => r = out) (fun _ t => BC (dC, dI) (va_A ((a0, .inr (7, [.ref a1, g4, g5, g6, g7, g8, g9, g10, g11, g12])) :: bX6 a1 up kp p_p []) sz) ((a0, .inr (7, [.ref a1, g4, g5, g6, g7, g8, g9, g10, g11, g12])) :: bX6 a1 up kp p_p []) [] t) (va_A ((a0, .inr (7, [.ref a1, g4, g5, g6, g7, g8, g9, g10, g11, g12])) :: bX6 a1 up kp p_p []) sz)) 0 0 (va_A ((a0, .inr (7, [.ref a1, g4, g5, g6, g7, g8, g9, g10, g11, g12])) :: bX6 a1 up kp p_p []) sz) := by
  refine Met.ofW (cc := cX10_everyAsker) (maxL := 1) (ret := (some .int)) (by decide) rfl ?_
  intro p e s m args below meth c s₁ B0 hml hv
  obtain ⟨rfl, hsz, hP, hK, hD0, hN⟩ := hv
  have hx := B0.exec
  have hb := B0.bytes
  have hr := B0.returns
  have hts := atoms_spec (ws := vfX10_everyAsker) B0.pre
  have hown : s.vm.findClass RX10 = some m.cls := findClass_of_methodNamed B0.named
  have hlocks := B0.notSynchronized
  subst hsz
  have hD := hD0.self (sz := s.heap.size)
  generalize hAe : va_A ((a0, .inr (7, [.ref a1, g4, g5, g6, g7, g8, g9, g10, g11, g12])) :: bX6 a1 up kp p_p []) s.heap.size = A at hD ⊢
  have hA : ∀ q : Nat, s.heap.size ≤ q → A q := fun q h => by rw [← hAe]; exact Or.inr h
  have hS : va_S A s.heap s.heap [] := va_S.rf
  have hP : va_P (dC, dI) vwCl ((a0, .inr (7, [.ref a1, g4, g5, g6, g7, g8, g9, g10, g11, g12])) :: bX6 a1 up kp p_p []) s.heap := hP
  have hl := lv_entry ([.ref a0]) (n := 1) (Nat.le_of_ble_eq_true rfl)
  rw [lg_entry_eq]
  generalize (lg_sl ([.ref a0]) ++ List.replicate (1 - (lg_sl ([.ref a0])).length) Slot.unset).toArray = ls at hl ⊢
  have hl : lv_has ls 1 [(0, .ref a0)] := hl
  refine W_q (fun QQ hQQ => ?_)
  rw [f_X10_everyAsker] at h
  refine lv_iconst (v := 1) hx hb dX10_everyAsker_0 (by decide) ?_
  refine lv_aload_n hx hb dX10_everyAsker_1 rfl (lv_at hl 0 rfl) ?_
  refine va_get (D := (dC, dI)) (ci := 7) (v := .ref a1) (C := RX10) (T := TX10) (N := 10) hx hb hts ifX10_everyAsker_X10 hown hK hP 0 rfl rfl 0 (by decide) (hts (.fieldLink RX10 10 "HookPier" "plan" "LHookPier$Plan;") (List.mem_of_getElem? (i := 1) rfl)) (fun _ h9 => h9) rfl dX10_everyAsker_2 ?_
  refine va_get (D := (dC, dI)) (ci := 4) (v := .int p_p.2.2.2.2.2.1) (C := RX6) (T := TX6) (N := 18) hx hb hts ifX10_everyAsker_X6 hown hK hP 1 rfl rfl 5 (by decide) (hts (.fieldLink RX10 246 "HookPier$Plan" "askers" "I") (List.mem_of_getElem? (i := 2) rfl)) (fun _ h9 => h9) rfl dX10_everyAsker_5 ?_
  refine lv_ishl hx hb dX10_everyAsker_8 ?_
  refine lv_iconst (v := 1) hx hb dX10_everyAsker_9 (by decide) ?_
  refine lv_isub hx hb dX10_everyAsker_10 ?_
  obtain rfl := h
  have hP9 := hP.sub (ws' := ((a0, .inr (7, [.ref a1, g4, g5, g6, g7, g8, g9, g10, g11, g12])) :: bX6 a1 up kp p_p [])) [0, 1, 2, 3, 4, 5, 6, 7, 8, 9, 10] rfl
  have hD9 := hD.sub (ws' := ((a0, .inr (7, [.ref a1, g4, g5, g6, g7, g8, g9, g10, g11, g12])) :: bX6 a1 up kp p_p [])) [0, 1, 2, 3, 4, 5, 6, 7, 8, 9, 10] (by decide) rfl
  have hK9 := hK.sub (tys' := []) [] rfl
  rw [hQQ]
  exact W.iret (v := (((1 : Int32) <<< (p_p.2.2.2.2.2.1 &&& 31)) - (1 : Int32))) hx hb hr (fun t ht hW => ⟨⟨(((1 : Int32) <<< (p_p.2.2.2.2.2.1 &&& 31)) - (1 : Int32)), (), rfl, rfl, by rw [ht]; exact hP9, va_K.moved hW.alike hK9, hD9⟩, hS.F ht⟩) hS.2.2 dX10_everyAsker_11
theorem dX8_keepRow_0 : decode cX8_keepRow 0 = .ok (.aload_n 0, 1) := by decide +kernel
theorem dX8_keepRow_1 : decode cX8_keepRow 1 = .ok (.getfield 18, 3) := by decide +kernel
theorem dX8_keepRow_11 : decode cX8_keepRow 11 = .ok (.iconst 0, 1) := by decide +kernel
theorem dX8_keepRow_12 : decode cX8_keepRow 12 = .ok (.aload_n 0, 1) := by decide +kernel
theorem dX8_keepRow_13 : decode cX8_keepRow 13 = .ok (.getfield 15, 3) := by decide +kernel
theorem dX8_keepRow_16 : decode cX8_keepRow 16 = .ok (.iconst 0, 1) := by decide +kernel
theorem dX8_keepRow_17 : decode cX8_keepRow 17 = .ok (.aload_n 0, 1) := by decide +kernel
theorem dX8_keepRow_18 : decode cX8_keepRow 18 = .ok (.getfield 9, 3) := by decide +kernel
theorem dX8_keepRow_21 : decode cX8_keepRow 21 = .ok (.arraylength, 1) := by decide +kernel
theorem dX8_keepRow_22 : decode cX8_keepRow 22 = .ok (.invokestatic 41, 3) := by decide +kernel
theorem dX8_keepRow_25 : decode cX8_keepRow 25 = .ok (.aload_n 0, 1) := by decide +kernel
theorem dX8_keepRow_26 : decode cX8_keepRow 26 = .ok (.dup, 1) := by decide +kernel
theorem dX8_keepRow_27 : decode cX8_keepRow 27 = .ok (.getfield 18, 3) := by decide +kernel
theorem dX8_keepRow_30 : decode cX8_keepRow 30 = .ok (.iconst 1, 1) := by decide +kernel
theorem dX8_keepRow_31 : decode cX8_keepRow 31 = .ok (.iadd, 1) := by decide +kernel
theorem dX8_keepRow_32 : decode cX8_keepRow 32 = .ok (.putfield 18, 3) := by decide +kernel
theorem dX8_keepRow_35 : decode cX8_keepRow 35 = .ok (.return_, 1) := by decide +kernel
theorem dX8_keepRow_4 : decode cX8_keepRow 4 = .ok (.ifCond .ne 21, 3) := by decide +kernel
theorem dX8_keepRow_7 : decode cX8_keepRow 7 = .ok (.aload_n 0, 1) := by decide +kernel
theorem dX8_keepRow_8 : decode cX8_keepRow 8 = .ok (.getfield 9, 3) := by decide +kernel
def vfX8_keepRow : List Cond := .code yX8_keepRow cX8_keepRow 1 none :: ([.fieldLink RX8 18 "HookPier$Seats" "found" "I", .fieldLink RX8 9 "HookPier$Seats" "row" "[I", .fieldLink RX8 15 "HookPier$Seats" "first" "[I", .methodLink RX8 41 arraycopyName, .native arraycopyName, .static arraycopyName, .initialized "java/lang/System"] ++ wsX80)
theorem ifX8_keepRow_X8 : ∀ w ∈ wsX80, w ∈ vfX8_keepRow := fun _ h => List.mem_cons_of_mem _ (List.mem_append_right _ h)
set_option maxHeartbeats 2000000 in
set_option maxRecDepth 100000 in
theorem kfX8_keepRow (l : Launch) (dC : Nat → ClassId) (dI : Nat → Nat → Nat) (a0 : Nat) (us : Nat → Nat) (ks : Nat → ClassId) (s_s : TX8_s) (sz : Nat) (out : TX8_s) (h : f_X8_keepRow s_s = out) : Met l yX8_keepRow vfX8_keepRow ({ frames := 1, cells := 0, slots := 0, locals := 40 }) (PC (dC, dI) [.ref a0] sz (bX8 a0 us ks s_s []) (tX8 ks ([]))) (va_Qv (S := Unit) (fun _ => True) (fun _ t => BC (dC, dI) (va_A (bX8 a0 us ks s_s []) sz) (bX8 a0 us ks out []) [] t) (va_A (bX8 a0 us ks s_s []) sz)) 0 0 (va_A (bX8 a0 us ks s_s []) sz) := by
  refine Met.ofW (cc := cX8_keepRow) (maxL := 1) (ret := none) (by decide) rfl ?_
  intro p e s m args below meth c s₁ B0 hml hv
  obtain ⟨rfl, hsz, hP, hK, hD0, hN⟩ := hv
  have hx := B0.exec
  have hb := B0.bytes
  have hr := B0.returns
  have hts := atoms_spec (ws := vfX8_keepRow) B0.pre
  have hown : s.vm.findClass RX8 = some m.cls := findClass_of_methodNamed B0.named
  have hlocks := B0.notSynchronized
  subst hsz
  have hD := hD0.self (sz := s.heap.size)
  generalize hAe : va_A (bX8 a0 us ks s_s []) s.heap.size = A at hD ⊢
  have hA : ∀ q : Nat, s.heap.size ≤ q → A q := fun q h => by rw [← hAe]; exact Or.inr h
  have hS : va_S A s.heap s.heap [] := va_S.rf
  have hP : va_P (dC, dI) vwCl (bX8 a0 us ks s_s []) s.heap := hP
  have hl := lv_entry ([.ref a0]) (n := 1) (Nat.le_of_ble_eq_true rfl)
  rw [lg_entry_eq]
  generalize (lg_sl ([.ref a0]) ++ List.replicate (1 - (lg_sl ([.ref a0])).length) Slot.unset).toArray = ls at hl ⊢
  have hl : lv_has ls 1 [(0, .ref a0)] := hl
  refine W_q (fun QQ hQQ => ?_)
  rw [f_X8_keepRow] at h
  refine lv_aload_n hx hb dX8_keepRow_0 rfl (lv_at hl 0 rfl) ?_
  refine va_get (D := (dC, dI)) (ci := 6) (v := .int s_s.2.2) (C := RX8) (T := TX8) (N := 3) hx hb hts ifX8_keepRow_X8 hown hK hP 0 rfl rfl 2 (by decide) (hts (.fieldLink RX8 18 "HookPier$Seats" "found" "I") (List.mem_of_getElem? (i := 1) rfl)) (fun _ h9 => h9) rfl dX8_keepRow_1 ?_
  have J25 : ∀ (v25_s_s : TX8_s) (H : Heap) (locs : List Loc) (ls : Array Slot), f_X8_keepRow_J25 v25_s_s = out → va_P (dC, dI) vwCl (bX8 a0 us ks v25_s_s []) H → va_D A (bX8 a0 us ks v25_s_s []) → va_S A s.heap H locs → lv_has ls 1 [(0, .ref a0)] → W p l e (headSpec vfX8_keepRow { frames := 1, cells := 0, slots := 0, locals := 40 }).room s m ([.ref a0]).toArray below meth c H locs 0 0 QQ (F0 m 25 ls []) := by
    intro v25_s_s H locs ls h  hP hD hS hl
    rw [f_X8_keepRow_J25] at h
    refine lv_aload_n hx hb dX8_keepRow_25 rfl (lv_at hl 0 rfl) ?_
    refine lv_dup hx hb dX8_keepRow_26 rfl ?_
    refine va_get (D := (dC, dI)) (ci := 6) (v := .int v25_s_s.2.2) (C := RX8) (T := TX8) (N := 3) hx hb hts ifX8_keepRow_X8 hown hK hP 0 rfl rfl 2 (by decide) (hts (.fieldLink RX8 18 "HookPier$Seats" "found" "I") (List.mem_of_getElem? (i := 1) rfl)) (fun _ h9 => h9) rfl dX8_keepRow_27 ?_
    refine lv_iconst (v := 1) hx hb dX8_keepRow_30 (by decide) ?_
    refine lv_iadd hx hb dX8_keepRow_31 ?_
    refine va_put (D := (dC, dI)) (ci := 6) (v := .int (v25_s_s.2.2 + (1 : Int32))) (ty := .int) (C := RX8) (T := TX8) (N := 3) hx hb hts ifX8_keepRow_X8 tyX8 tyX8_ok nmX8 hown hK hP hD hS 0 rfl rfl 2 (by decide) (hts (.fieldLink RX8 18 "HookPier$Seats" "found" "I") (List.mem_of_getElem? (i := 1) rfl)) (fun _ h9 => h9) rfl (by decide +kernel) rfl rfl (Nat.le_of_ble_eq_true rfl) dX8_keepRow_32 (fun H locs hP hD hS => ?_)
    have hP : va_P (dC, dI) vwCl (bX8 a0 us ks (v25_s_s.1, v25_s_s.2.1, (v25_s_s.2.2 + (1 : Int32))) []) H := hP
    have hD : va_D A (bX8 a0 us ks (v25_s_s.1, v25_s_s.2.1, (v25_s_s.2.2 + (1 : Int32))) []) := hD
    obtain rfl := h
    have hP9 := hP.sub (ws' := (bX8 a0 us ks (v25_s_s.1, v25_s_s.2.1, (v25_s_s.2.2 + (1 : Int32))) [])) [0, 1, 2] rfl
    have hD9 := hD.sub (ws' := (bX8 a0 us ks (v25_s_s.1, v25_s_s.2.1, (v25_s_s.2.2 + (1 : Int32))) [])) [0, 1, 2] (by decide) rfl
    have hK9 := hK.sub (tys' := []) [] rfl
    rw [hQQ]
    exact W.vret hx hb hr (fun t ht hW => ⟨⟨(), rfl, trivial, by rw [ht]; exact hP9, va_K.moved hW.alike hK9, hD9⟩, hS.F ht⟩) hS.2.2 dX8_keepRow_35
  refine lv_if_ne (tgt := 25) hx hb dX8_keepRow_4 (by decide) (fun c4 => ?_) (fun c4 => ?_)
  · have h := (if_neg c4).symm.trans h
    exact J25 s_s s.heap _ ls h  hP hD hS (lv_sub hl [0] rfl)
  · have h := (if_pos c4).symm.trans h
    refine lv_aload_n hx hb dX8_keepRow_7 rfl (lv_at hl 0 rfl) ?_
    refine va_get (D := (dC, dI)) (ci := 6) (v := .ref (us 0)) (C := RX8) (T := TX8) (N := 3) hx hb hts ifX8_keepRow_X8 hown hK hP 0 rfl rfl 0 (by decide) (hts (.fieldLink RX8 9 "HookPier$Seats" "row" "[I") (List.mem_of_getElem? (i := 2) rfl)) (fun _ h9 => h9) rfl dX8_keepRow_8 ?_
    refine lv_iconst (v := 0) hx hb dX8_keepRow_11 (by decide) ?_
    refine lv_aload_n hx hb dX8_keepRow_12 rfl (lv_at hl 0 rfl) ?_
    refine va_get (D := (dC, dI)) (ci := 6) (v := .ref (us 1)) (C := RX8) (T := TX8) (N := 3) hx hb hts ifX8_keepRow_X8 hown hK hP 0 rfl rfl 1 (by decide) (hts (.fieldLink RX8 15 "HookPier$Seats" "first" "[I") (List.mem_of_getElem? (i := 3) rfl)) (fun _ h9 => h9) rfl dX8_keepRow_13 ?_
    refine lv_iconst (v := 0) hx hb dX8_keepRow_16 (by decide) ?_
    refine lv_aload_n hx hb dX8_keepRow_17 rfl (lv_at hl 0 rfl) ?_
    refine va_get (D := (dC, dI)) (ci := 6) (v := .ref (us 0)) (C := RX8) (T := TX8) (N := 3) hx hb hts ifX8_keepRow_X8 hown hK hP 0 rfl rfl 0 (by decide) (hts (.fieldLink RX8 9 "HookPier$Seats" "row" "[I") (List.mem_of_getElem? (i := 2) rfl)) (fun _ h9 => h9) rfl dX8_keepRow_18 ?_
    refine va_alen (v := 5) hx hb hK hP 1 0 rfl rfl rfl dX8_keepRow_21 ?_
    refine va_copyi hx hb (by rw [hml]; exact hl.1.symm) hown (hts (.methodLink RX8 41 arraycopyName) (List.mem_of_getElem? (i := 4) rfl)) (hts (.native arraycopyName) (List.mem_of_getElem? (i := 5) rfl)) (hts (.static arraycopyName) (List.mem_of_getElem? (i := 6) rfl)) (hts (.initialized "java/lang/System") (List.mem_of_getElem? (i := 7) rfl)) hK hP hD hS 1 2 0 1 rfl rfl rfl rfl rfl (by decide) (by decide) (by decide) (by decide) (by decide) (fun _ _ => rfl) (Nat.le_of_ble_eq_true rfl) (Nat.le_of_ble_eq_true rfl) dX8_keepRow_22 (fun H locs hP hD hS => ?_)
    have hP : va_P (dC, dI) vwCl (bX8 a0 us ks (s_s.1, (va_cpy s_s.1 s_s.2.1 (0 : Int32).toNatClampNeg (0 : Int32).toNatClampNeg (5 : Int32).toNatClampNeg), s_s.2.2) []) H := hP
    have hD : va_D A (bX8 a0 us ks (s_s.1, (va_cpy s_s.1 s_s.2.1 (0 : Int32).toNatClampNeg (0 : Int32).toNatClampNeg (5 : Int32).toNatClampNeg), s_s.2.2) []) := hD
    exact J25 (s_s.1, (va_cpy s_s.1 s_s.2.1 (0 : Int32).toNatClampNeg (0 : Int32).toNatClampNeg (5 : Int32).toNatClampNeg), s_s.2.2) H _ ls h  hP hD hS (lv_sub hl [0] rfl)
theorem dX8_fill_0 : decode cX8_fill 0 = .ok (.iload_n 2, 1) := by decide +kernel
theorem dX8_fill_1 : decode cX8_fill 1 = .ok (.aload_n 1, 1) := by decide +kernel
theorem dX8_fill_10 : decode cX8_fill 10 = .ok (.getfield 9, 3) := by decide +kernel
theorem dX8_fill_13 : decode cX8_fill 13 = .ok (.arraylength, 1) := by decide +kernel
theorem dX8_fill_14 : decode cX8_fill 14 = .ok (.if_icmp .lt 8, 3) := by decide +kernel
theorem dX8_fill_17 : decode cX8_fill 17 = .ok (.aload_n 0, 1) := by decide +kernel
theorem dX8_fill_18 : decode cX8_fill 18 = .ok (.invokevirtual 31, 3) := by decide +kernel
theorem dX8_fill_2 : decode cX8_fill 2 = .ok (.getfield 26, 3) := by decide +kernel
theorem dX8_fill_21 : decode cX8_fill 21 = .ok (.return_, 1) := by decide +kernel
theorem dX8_fill_5 : decode cX8_fill 5 = .ok (.if_icmp .ge 12, 3) := by decide +kernel
theorem dX8_fill_8 : decode cX8_fill 8 = .ok (.iload_n 2, 1) := by decide +kernel
theorem dX8_fill_9 : decode cX8_fill 9 = .ok (.aload_n 0, 1) := by decide +kernel
def vfX8_fill_s5 : List Cond := .code yX8_fill cX8_fill 6 none :: ([.fieldLink RX8 26 "HookPier$Plan" "askers" "I", .methodLink RX8 31 yX8_keepRow, .instanceMethod yX8_keepRow, .selects RX8 yX8_keepRow yX8_keepRow, .initialized RX8, .code yX8_keepRow cX8_keepRow 1 none, .fieldLink RX8 18 "HookPier$Seats" "found" "I", .fieldLink RX8 9 "HookPier$Seats" "row" "[I", .fieldLink RX8 15 "HookPier$Seats" "first" "[I", .methodLink RX8 41 arraycopyName, .native arraycopyName, .static arraycopyName, .initialized "java/lang/System"] ++ wsX60 ++ wsX80)
theorem ifX8_fill_s5_X6 : ∀ w ∈ wsX60, w ∈ vfX8_fill_s5 := fun _ h => List.mem_cons_of_mem _ (List.mem_append_left _ (List.mem_append_right _ h))
theorem ifX8_fill_s5_X8 : ∀ w ∈ wsX80, w ∈ vfX8_fill_s5 := fun _ h => List.mem_cons_of_mem _ (List.mem_append_right _ h)
set_option maxRecDepth 20000 in
theorem gfX8_fill_s5_0 : GoodIn vfX8_fill_s5 (wsV RX8 31 RX8 yX8_keepRow vfX8_keepRow) := goodIn_app (goodIn_r [.methodLink RX8 31 yX8_keepRow, .instanceMethod yX8_keepRow, .selects RX8 yX8_keepRow yX8_keepRow, .initialized RX8] [2, 3, 4, 5] (by decide +kernel) (by decide +kernel)) (goodIn_ca (goodIn_r (.code yX8_keepRow cX8_keepRow 1 none :: [.fieldLink RX8 18 "HookPier$Seats" "found" "I", .fieldLink RX8 9 "HookPier$Seats" "row" "[I", .fieldLink RX8 15 "HookPier$Seats" "first" "[I", .methodLink RX8 41 arraycopyName, .native arraycopyName, .static arraycopyName, .initialized "java/lang/System"]) [6, 7, 8, 9, 10, 11, 12, 13] (by decide +kernel) (by decide +kernel) : GoodIn vfX8_fill_s5 (.code yX8_keepRow cX8_keepRow 1 none :: [.fieldLink RX8 18 "HookPier$Seats" "found" "I", .fieldLink RX8 9 "HookPier$Seats" "row" "[I", .fieldLink RX8 15 "HookPier$Seats" "first" "[I", .methodLink RX8 41 arraycopyName, .native arraycopyName, .static arraycopyName, .initialized "java/lang/System"])) (goodIn_sub ifX8_fill_s5_X8 (by decide +kernel)))
set_option maxHeartbeats 2000000 in
set_option maxRecDepth 100000 in
theorem kfX8_fill_s5 (l : Launch) (dC : Nat → ClassId) (dI : Nat → Nat → Nat) (a0 : Nat) (a1 : Nat) (k3 : Int32) (k4 : Int32) (us : Nat → Nat) (ks : Nat → ClassId) (up : Nat → Nat) (kp : Nat → ClassId) (s_s : TX8_s) (p_p : TX6_p) (sz : Nat) (out : TX8_s) (h : f_X8_fill_s5 k3 k4 s_s p_p = out) : Met l yX8_fill vfX8_fill_s5 ({ frames := 2, cells := 0, slots := 0, locals := 60 }) (PC (dC, dI) [.ref a0, .ref a1, .int 5, .int k3, .int k4] sz (bX8 a0 us ks s_s (bX6 a1 up kp p_p [])) (tX8 ks (tX6 kp ([])))) (va_Qv (S := Unit) (fun _ => True) (fun _ t => BC (dC, dI) (va_A (bX8 a0 us ks s_s (bX6 a1 up kp p_p [])) sz) (bX8 a0 us ks out (bX6 a1 up kp p_p [])) [] t) (va_A (bX8 a0 us ks s_s (bX6 a1 up kp p_p [])) sz)) 0 0 (va_A (bX8 a0 us ks s_s (bX6 a1 up kp p_p [])) sz) := by
  refine Met.ofW (cc := cX8_fill) (maxL := 6) (ret := none) (by decide) rfl ?_
  intro p e s m args below meth c s₁ B0 hml hv
  obtain ⟨rfl, hsz, hP, hK, hD0, hN⟩ := hv
  have hx := B0.exec
  have hb := B0.bytes
  have hr := B0.returns
  have hts := atoms_spec (ws := vfX8_fill_s5) B0.pre
  have hown : s.vm.findClass RX8 = some m.cls := findClass_of_methodNamed B0.named
  have hlocks := B0.notSynchronized
  subst hsz
  have hD := hD0.self (sz := s.heap.size)
  generalize hAe : va_A (bX8 a0 us ks s_s (bX6 a1 up kp p_p [])) s.heap.size = A at hD ⊢
  have hA : ∀ q : Nat, s.heap.size ≤ q → A q := fun q h => by rw [← hAe]; exact Or.inr h
  have hS : va_S A s.heap s.heap [] := va_S.rf
  have hP : va_P (dC, dI) vwCl (bX8 a0 us ks s_s (bX6 a1 up kp p_p [])) s.heap := hP
  have hl := lv_entry ([.ref a0, .ref a1, .int 5, .int k3, .int k4]) (n := 6) (Nat.le_of_ble_eq_true rfl)
  rw [lg_entry_eq]
  generalize (lg_sl ([.ref a0, .ref a1, .int 5, .int k3, .int k4]) ++ List.replicate (6 - (lg_sl ([.ref a0, .ref a1, .int 5, .int k3, .int k4])).length) Slot.unset).toArray = ls at hl ⊢
  have hl : lv_has ls 6 [(0, .ref a0), (1, .ref a1), (2, .int 5), (3, .int k3), (4, .int k4)] := hl
  refine W_q (fun QQ hQQ => ?_)
  rw [f_X8_fill_s5] at h
  refine lv_iload_n hx hb dX8_fill_0 rfl (lv_at hl 2 rfl) ?_
  refine lv_aload_n hx hb dX8_fill_1 rfl (lv_at hl 1 rfl) ?_
  refine va_get (D := (dC, dI)) (ci := 4) (v := .int p_p.2.2.2.2.2.1) (C := RX6) (T := TX6) (N := 18) hx hb hts ifX8_fill_s5_X6 hown hK hP 3 rfl rfl 5 (by decide) (hts (.fieldLink RX8 26 "HookPier$Plan" "askers" "I") (List.mem_of_getElem? (i := 1) rfl)) (fun _ h9 => h9) rfl dX8_fill_2 ?_
  have J17 : ∀ (H : Heap) (locs : List Loc) (ls : Array Slot), f_X8_fill_s5_J17 s_s = out → va_P (dC, dI) vwCl (bX8 a0 us ks s_s (bX6 a1 up kp p_p [])) H → va_D A (bX8 a0 us ks s_s (bX6 a1 up kp p_p [])) → va_S A s.heap H locs → lv_has ls 6 [(0, .ref a0)] → W p l e (headSpec vfX8_fill_s5 { frames := 2, cells := 0, slots := 0, locals := 60 }).room s m ([.ref a0, .ref a1, .int 5, .int k3, .int k4]).toArray below meth c H locs 0 0 QQ (F0 m 17 ls []) := by
    intro  H locs ls h  hP hD hS hl
    rw [f_X8_fill_s5_J17] at h
    refine lv_aload_n hx hb dX8_fill_17 rfl (lv_at hl 0 rfl) ?_
    obtain ⟨o18, eo18⟩ : ∃ o, o = f_X8_keepRow s_s := ⟨_, rfl⟩
    have h := nm_of h o18 eo18
    refine cl_v (wc := (bX8 a0 us ks s_s [])) (wr := (bX6 a1 up kp p_p [])) (va_runV (As := []) (rest := []) ⟨hx, hb, hml, hown, hts⟩ (kfX8_keepRow l dC dI a0 us ks s_s H.size o18 eo18.symm) (cwV 0 hts gfX8_fill_s5_0 rfl rfl rfl (by decide +kernel) ⟨(Nat.le_of_ble_eq_true rfl), (Nat.le_of_ble_eq_true rfl)⟩) (PV (hP.sub (ws' := (bX8 a0 us ks s_s [])) [0, 1, 2] rfl) (hK.sub (tys' := (tX8 ks ([]))) [0, 1] rfl) (hD.sub (ws' := (bX8 a0 us ks s_s [])) [0, 1, 2] (by decide) rfl) hN 0 rfl rfl) rfl rfl hl.1 rfl (lv_room (Nat.le_of_ble_eq_true rfl)) dX8_fill_18 ⟨(Nat.le_of_ble_eq_true rfl), (Nat.le_of_ble_eq_true rfl)⟩) hP hD hK hS hA [0, 1, 2] [3, 4, 5, 6, 7, 8, 9, 10, 11, 12] rfl rfl (by decide) (by decide) (fun _ H locs hw hP hD _ hS => ?_)
    have hP : va_P (dC, dI) vwCl (bX6 a1 up kp p_p (bX8 a0 us ks o18 [])) H := hP
    have hD : va_D A (bX6 a1 up kp p_p (bX8 a0 us ks o18 [])) := hD
    obtain rfl := h
    have hP9 := hP.sub (ws' := (bX8 a0 us ks o18 (bX6 a1 up kp p_p []))) [10, 11, 12, 0, 1, 2, 3, 4, 5, 6, 7, 8, 9] rfl
    have hD9 := hD.sub (ws' := (bX8 a0 us ks o18 (bX6 a1 up kp p_p []))) [10, 11, 12, 0, 1, 2, 3, 4, 5, 6, 7, 8, 9] (by decide) rfl
    have hK9 := hK.sub (tys' := []) [] rfl
    rw [hQQ]
    exact W.vret hx hb hr (fun t ht hW => ⟨⟨(), rfl, trivial, by rw [ht]; exact hP9, va_K.moved hW.alike hK9, hD9⟩, hS.F ht⟩) hS.2.2 dX8_fill_21
  refine lv_icmp_ge (tgt := 17) hx hb dX8_fill_5 (by decide) (fun c5 => ?_) (fun c5 => ?_)
  · have h := (if_pos c5).symm.trans h
    exact J17  s.heap _ ls h  hP hD hS (lv_sub hl [0] rfl)
  · have h := (if_neg c5).symm.trans h
    refine lv_iload_n hx hb dX8_fill_8 rfl (lv_at hl 2 rfl) ?_
    refine lv_aload_n hx hb dX8_fill_9 rfl (lv_at hl 0 rfl) ?_
    refine va_get (D := (dC, dI)) (ci := 6) (v := .ref (us 0)) (C := RX8) (T := TX8) (N := 3) hx hb hts ifX8_fill_s5_X8 hown hK hP 0 rfl rfl 0 (by decide) (hts (.fieldLink RX8 9 "HookPier$Seats" "row" "[I") (List.mem_of_getElem? (i := 8) rfl)) (fun _ h9 => h9) rfl dX8_fill_10 ?_
    refine va_alen (v := 5) hx hb hK hP 1 0 rfl rfl rfl dX8_fill_13 ?_
    refine lv_icmp_lt (tgt := 22) hx hb dX8_fill_14 (by decide) (fun c14 => absurd c14 (by decide)) (fun _ => ?_)
    exact J17  s.heap _ ls h  hP hD hS (lv_sub hl [0] rfl)
theorem dX8_isFree_0 : decode cX8_isFree 0 = .ok (.iconst 0, 1) := by decide +kernel
theorem dX8_isFree_1 : decode cX8_isFree 1 = .ok (.istore 4, 2) := by decide +kernel
theorem dX8_isFree_10 : decode cX8_isFree 10 = .ok (.getfield 9, 3) := by decide +kernel
theorem dX8_isFree_13 : decode cX8_isFree 13 = .ok (.iload 4, 2) := by decide +kernel
theorem dX8_isFree_15 : decode cX8_isFree 15 = .ok (.iaload, 1) := by decide +kernel
theorem dX8_isFree_16 : decode cX8_isFree 16 = .ok (.iconst (-1), 1) := by decide +kernel
theorem dX8_isFree_17 : decode cX8_isFree 17 = .ok (.if_icmp .eq 23, 3) := by decide +kernel
theorem dX8_isFree_20 : decode cX8_isFree 20 = .ok (.aload_n 1, 1) := by decide +kernel
theorem dX8_isFree_21 : decode cX8_isFree 21 = .ok (.iload_n 2, 1) := by decide +kernel
theorem dX8_isFree_22 : decode cX8_isFree 22 = .ok (.iload_n 3, 1) := by decide +kernel
theorem dX8_isFree_23 : decode cX8_isFree 23 = .ok (.iload 4, 2) := by decide +kernel
theorem dX8_isFree_25 : decode cX8_isFree 25 = .ok (.aload_n 0, 1) := by decide +kernel
theorem dX8_isFree_26 : decode cX8_isFree 26 = .ok (.getfield 9, 3) := by decide +kernel
theorem dX8_isFree_29 : decode cX8_isFree 29 = .ok (.iload 4, 2) := by decide +kernel
theorem dX8_isFree_3 : decode cX8_isFree 3 = .ok (.iload 4, 2) := by decide +kernel
theorem dX8_isFree_31 : decode cX8_isFree 31 = .ok (.iaload, 1) := by decide +kernel
theorem dX8_isFree_32 : decode cX8_isFree 32 = .ok (.invokevirtual 47, 3) := by decide +kernel
theorem dX8_isFree_35 : decode cX8_isFree 35 = .ok (.ifCond .eq 5, 3) := by decide +kernel
theorem dX8_isFree_38 : decode cX8_isFree 38 = .ok (.iconst 0, 1) := by decide +kernel
theorem dX8_isFree_39 : decode cX8_isFree 39 = .ok (.ireturn, 1) := by decide +kernel
theorem dX8_isFree_40 : decode cX8_isFree 40 = .ok (.iinc 4 1, 3) := by decide +kernel
theorem dX8_isFree_43 : decode cX8_isFree 43 = .ok (.goto (-40), 3) := by decide +kernel
theorem dX8_isFree_46 : decode cX8_isFree 46 = .ok (.iconst 1, 1) := by decide +kernel
theorem dX8_isFree_47 : decode cX8_isFree 47 = .ok (.ireturn, 1) := by decide +kernel
theorem dX8_isFree_5 : decode cX8_isFree 5 = .ok (.iload_n 2, 1) := by decide +kernel
theorem dX8_isFree_6 : decode cX8_isFree 6 = .ok (.if_icmp .ge 40, 3) := by decide +kernel
theorem dX8_isFree_9 : decode cX8_isFree 9 = .ok (.aload_n 0, 1) := by decide +kernel
def vfX8_isFree : List Cond := .code yX8_isFree cX8_isFree 5 (some .boolean) :: ([.fieldLink RX8 9 "HookPier$Seats" "row" "[I", .methodLink RX8 47 yX6_isTangle, .instanceMethod yX6_isTangle, .selects RX6 yX6_isTangle yX6_isTangle, .initialized RX6, .code yX6_isTangle cX6_isTangle 5 (some .boolean), .methodLink RX6 89 Lib.Math.abs.name, .static Lib.Math.abs.name, .initialized "java/lang/Math", .code Lib.Math.abs.name Lib.Math.abs.code 1 (some .int), .fieldLink RX6 39 "HookPier$Plan" "reach" "[I"] ++ wsX80 ++ wsX60)
theorem ifX8_isFree_X8 : ∀ w ∈ wsX80, w ∈ vfX8_isFree := fun _ h => List.mem_cons_of_mem _ (List.mem_append_left _ (List.mem_append_right _ h))
theorem ifX8_isFree_X6 : ∀ w ∈ wsX60, w ∈ vfX8_isFree := fun _ h => List.mem_cons_of_mem _ (List.mem_append_right _ h)
set_option maxRecDepth 20000 in
theorem gfX8_isFree_0 : GoodIn vfX8_isFree (wsV RX8 47 RX6 yX6_isTangle vfX6_isTangle) := goodIn_app (goodIn_r [.methodLink RX8 47 yX6_isTangle, .instanceMethod yX6_isTangle, .selects RX6 yX6_isTangle yX6_isTangle, .initialized RX6] [2, 3, 4, 5] (by decide +kernel) (by decide +kernel)) (goodIn_ca (goodIn_r (.code yX6_isTangle cX6_isTangle 5 (some .boolean) :: [.methodLink RX6 89 Lib.Math.abs.name, .static Lib.Math.abs.name, .initialized "java/lang/Math", .code Lib.Math.abs.name Lib.Math.abs.code 1 (some .int), .fieldLink RX6 39 "HookPier$Plan" "reach" "[I"]) [6, 7, 8, 9, 10, 11] (by decide +kernel) (by decide +kernel) : GoodIn vfX8_isFree (.code yX6_isTangle cX6_isTangle 5 (some .boolean) :: [.methodLink RX6 89 Lib.Math.abs.name, .static Lib.Math.abs.name, .initialized "java/lang/Math", .code Lib.Math.abs.name Lib.Math.abs.code 1 (some .int), .fieldLink RX6 39 "HookPier$Plan" "reach" "[I"])) (goodIn_sub ifX8_isFree_X6 (by decide +kernel)))
set_option maxHeartbeats 2000000 in
set_option maxRecDepth 100000 in
theorem kfX8_isFree (l : Launch) (dC : Nat → ClassId) (dI : Nat → Nat → Nat) (a0 : Nat) (a1 : Nat) (k2 : Int32) (k3 : Int32) (us : Nat → Nat) (ks : Nat → ClassId) (up : Nat → Nat) (kp : Nat → ClassId) (s_s : TX8_s) (p_p : TX6_p) (sz : Nat) (out : Int32) (h : f_X8_isFree k2 k3 s_s p_p = some out) : Met l yX8_isFree vfX8_isFree ({ frames := 2, cells := 0, slots := 0, locals := 45 }) (PC (dC, dI) [.ref a0, .ref a1, .int k2, .int k3] sz (bX8 a0 us ks s_s (bX6 a1 up kp p_p [])) (tX8 ks (tX6 kp ([])))) (va_Qi (S := Unit) (fun (r : Int32) _ => r = out ∧ (0 ≤ r.toInt ∧ r.toInt ≤ 1)) (fun _ t => BC (dC, dI) (va_A (bX8 a0 us ks s_s (bX6 a1 up kp p_p [])) sz) (bX8 a0 us ks s_s (bX6 a1 up kp p_p [])) [] t) (va_A (bX8 a0 us ks s_s (bX6 a1 up kp p_p [])) sz)) 0 0 (va_A (bX8 a0 us ks s_s (bX6 a1 up kp p_p [])) sz) := by
  refine Met.ofW (cc := cX8_isFree) (maxL := 5) (ret := (some .boolean)) (by decide) rfl ?_
  intro p e s m args below meth c s₁ B0 hml hv
  obtain ⟨rfl, hsz, hP, hK, hD0, hN⟩ := hv
  have hx := B0.exec
  have hb := B0.bytes
  have hr := B0.returns
  have hts := atoms_spec (ws := vfX8_isFree) B0.pre
  have hown : s.vm.findClass RX8 = some m.cls := findClass_of_methodNamed B0.named
  have hlocks := B0.notSynchronized
  subst hsz
  have hD := hD0.self (sz := s.heap.size)
  generalize hAe : va_A (bX8 a0 us ks s_s (bX6 a1 up kp p_p [])) s.heap.size = A at hD ⊢
  have hA : ∀ q : Nat, s.heap.size ≤ q → A q := fun q h => by rw [← hAe]; exact Or.inr h
  have hS : va_S A s.heap s.heap [] := va_S.rf
  have hP : va_P (dC, dI) vwCl (bX8 a0 us ks s_s (bX6 a1 up kp p_p [])) s.heap := hP
  have hl := lv_entry ([.ref a0, .ref a1, .int k2, .int k3]) (n := 5) (Nat.le_of_ble_eq_true rfl)
  rw [lg_entry_eq]
  generalize (lg_sl ([.ref a0, .ref a1, .int k2, .int k3]) ++ List.replicate (5 - (lg_sl ([.ref a0, .ref a1, .int k2, .int k3])).length) Slot.unset).toArray = ls at hl ⊢
  have hl : lv_has ls 5 [(0, .ref a0), (1, .ref a1), (2, .int k2), (3, .int k3)] := hl
  refine W_q (fun QQ hQQ => ?_)
  rw [f_X8_isFree] at h
  refine lv_iconst (v := 0) hx hb dX8_isFree_0 (by decide) ?_
  refine lv_istore (lv' := [(4, .int 0), (0, .ref a0), (1, .ref a1), (2, .int k2), (3, .int k3)]) hx hb dX8_isFree_1 hl (by decide) rfl (fun ls hl => ?_)
  have L3 : ∀ (n3 : Nat) (v3_l4 : Int32) (H : Heap) (locs : List Loc) (ls : Array Slot), f_X8_isFree_L3 k2 k3 s_s p_p n3 v3_l4 = some out → va_P (dC, dI) vwCl (bX8 a0 us ks s_s (bX6 a1 up kp p_p [])) H → va_D A (bX8 a0 us ks s_s (bX6 a1 up kp p_p [])) → va_S A s.heap H locs → lv_has ls 5 [(4, .int v3_l4), (0, .ref a0), (1, .ref a1), (2, .int k2), (3, .int k3)] → W p l e (headSpec vfX8_isFree { frames := 2, cells := 0, slots := 0, locals := 45 }).room s m ([.ref a0, .ref a1, .int k2, .int k3]).toArray below meth c H locs 0 0 QQ (F0 m 3 ls []) := by
    intro n3
    induction n3 with
    | zero =>
      intro v3_l4 H locs ls h  _ _ _ _
      rw [f_X8_isFree_L3] at h
      cases h
    | succ n3 ih3 =>
      intro v3_l4 H locs ls h  hP hD hS hl
      rw [f_X8_isFree_L3] at h
      refine lv_iload hx hb dX8_isFree_3 (lv_at hl 0 rfl) ?_
      refine lv_iload_n hx hb dX8_isFree_5 rfl (lv_at hl 3 rfl) ?_
      refine lv_icmp_ge (tgt := 46) hx hb dX8_isFree_6 (by decide) (fun c6 => ?_) (fun c6 => ?_)
      · have h := (if_pos c6).symm.trans h
        refine lv_iconst (v := 1) hx hb dX8_isFree_46 (by decide) ?_
        obtain rfl := Option.some.inj h
        have hP9 := hP.sub (ws' := (bX8 a0 us ks s_s (bX6 a1 up kp p_p []))) [0, 1, 2, 3, 4, 5, 6, 7, 8, 9, 10, 11, 12] rfl
        have hD9 := hD.sub (ws' := (bX8 a0 us ks s_s (bX6 a1 up kp p_p []))) [0, 1, 2, 3, 4, 5, 6, 7, 8, 9, 10, 11, 12] (by decide) rfl
        have hK9 := hK.sub (tys' := []) [] rfl
        rw [hQQ]
        exact W.zret (v := (1 : Int32)) hx hb hr rfl (fun t ht hW => ⟨⟨(1 : Int32), (), rfl, ⟨rfl, (by decide)⟩, by rw [ht]; exact hP9, va_K.moved hW.alike hK9, hD9⟩, hS.F ht⟩) hS.2.2 dX8_isFree_47
      · have h := (if_neg c6).symm.trans h
        refine lv_aload_n hx hb dX8_isFree_9 rfl (lv_at hl 1 rfl) ?_
        refine va_get (D := (dC, dI)) (ci := 6) (v := .ref (us 0)) (C := RX8) (T := TX8) (N := 3) hx hb hts ifX8_isFree_X8 hown hK hP 0 rfl rfl 0 (by decide) (hts (.fieldLink RX8 9 "HookPier$Seats" "row" "[I") (List.mem_of_getElem? (i := 1) rfl)) (fun _ h9 => h9) rfl dX8_isFree_10 ?_
        refine lv_iload hx hb dX8_isFree_13 (lv_at hl 0 rfl) ?_
        obtain ⟨hg15, h⟩ := gA_of h
        refine va_iald hx hb hK hP 1 0 rfl rfl hg15 dX8_isFree_15 ?_
        refine lv_iconst (v := (-1)) hx hb dX8_isFree_16 (by decide) ?_
        have J40 : ∀ (H : Heap) (locs : List Loc) (ls : Array Slot), f_X8_isFree_J40 (f_X8_isFree_L3 k2 k3 s_s p_p n3) v3_l4 = some out → va_P (dC, dI) vwCl (bX8 a0 us ks s_s (bX6 a1 up kp p_p [])) H → va_D A (bX8 a0 us ks s_s (bX6 a1 up kp p_p [])) → va_S A s.heap H locs → lv_has ls 5 [(4, .int v3_l4), (0, .ref a0), (1, .ref a1), (2, .int k2), (3, .int k3)] → W p l e (headSpec vfX8_isFree { frames := 2, cells := 0, slots := 0, locals := 45 }).room s m ([.ref a0, .ref a1, .int k2, .int k3]).toArray below meth c H locs 0 0 QQ (F0 m 40 ls []) := by
          intro  H locs ls h  hP hD hS hl
          rw [f_X8_isFree_J40] at h
          refine lv_iinc (v := (v3_l4 + (1 : Int32))) (lv' := [(4, .int (v3_l4 + (1 : Int32))), (0, .ref a0), (1, .ref a1), (2, .int k2), (3, .int k3)]) hx hb dX8_isFree_40 hl (k := 0) rfl rfl (by decide) rfl (fun ls hl => ?_)
          refine lv_goto (tgt := 3) hx hb dX8_isFree_43 (by decide) ?_
          exact ih3 (v3_l4 + (1 : Int32)) H _ ls h  hP hD hS (lv_sub hl [0, 1, 2, 3, 4] rfl)
        refine lv_icmp_eq (tgt := 40) hx hb dX8_isFree_17 (by decide) (fun c17 => ?_) (fun c17 => ?_)
        · have h := (if_pos c17).symm.trans h
          exact J40  H _ ls h  hP hD hS (lv_sub hl [0, 1, 2, 3, 4] rfl)
        · have h := (if_neg c17).symm.trans h
          refine lv_aload_n hx hb dX8_isFree_20 rfl (lv_at hl 2 rfl) ?_
          refine lv_iload_n hx hb dX8_isFree_21 rfl (lv_at hl 3 rfl) ?_
          refine lv_iload_n hx hb dX8_isFree_22 rfl (lv_at hl 4 rfl) ?_
          refine lv_iload hx hb dX8_isFree_23 (lv_at hl 0 rfl) ?_
          refine lv_aload_n hx hb dX8_isFree_25 rfl (lv_at hl 1 rfl) ?_
          refine va_get (D := (dC, dI)) (ci := 6) (v := .ref (us 0)) (C := RX8) (T := TX8) (N := 3) hx hb hts ifX8_isFree_X8 hown hK hP 0 rfl rfl 0 (by decide) (hts (.fieldLink RX8 9 "HookPier$Seats" "row" "[I") (List.mem_of_getElem? (i := 1) rfl)) (fun _ h9 => h9) rfl dX8_isFree_26 ?_
          refine lv_iload hx hb dX8_isFree_29 (lv_at hl 0 rfl) ?_
          obtain ⟨hg31, h⟩ := gA_of h
          refine va_iald hx hb hK hP 1 0 rfl rfl hg31 dX8_isFree_31 ?_
          obtain ⟨o32, eo32, h⟩ := bd_of h
          refine cl_i (wc := (bX6 a1 up kp p_p [])) (wr := (bX8 a0 us ks s_s [])) (va_runV (As := [.int k2, .int k3, .int v3_l4, .int (s_s.1 (v3_l4).toNatClampNeg)]) (rest := []) ⟨hx, hb, hml, hown, hts⟩ (kfX6_isTangle l dC dI a1 k2 k3 v3_l4 (s_s.1 (v3_l4).toNatClampNeg) up kp p_p H.size o32 eo32) (cwV 4 hts gfX8_isFree_0 rfl rfl rfl (by decide +kernel) ⟨(Nat.le_of_ble_eq_true rfl), (Nat.le_of_ble_eq_true rfl)⟩) (PV (hP.sub (ws' := (bX6 a1 up kp p_p [])) [3, 4, 5, 6, 7, 8, 9, 10, 11, 12] rfl) (hK.sub (tys' := (tX6 kp ([]))) [2, 3, 4, 5, 6, 7, 8, 9, 10] rfl) (hD.sub (ws' := (bX6 a1 up kp p_p [])) [3, 4, 5, 6, 7, 8, 9, 10, 11, 12] (by decide) rfl) hN 0 rfl rfl) rfl rfl hl.1 rfl (lv_room (Nat.le_of_ble_eq_true rfl)) dX8_isFree_32 ⟨(Nat.le_of_ble_eq_true rfl), (Nat.le_of_ble_eq_true rfl)⟩) hP hD hK hS hA [3, 4, 5, 6, 7, 8, 9, 10, 11, 12] [0, 1, 2] rfl rfl (by decide) (by decide) (fun r32 _ H locs hw hP hD _ hS => ?_)
          obtain ⟨hw, br32⟩ := hw
          obtain rfl := hw.symm
          have hP : va_P (dC, dI) vwCl (bX8 a0 us ks s_s (bX6 a1 up kp p_p [])) H := hP
          have hD : va_D A (bX8 a0 us ks s_s (bX6 a1 up kp p_p [])) := hD
          refine lv_if_eq (tgt := 40) hx hb dX8_isFree_35 (by decide) (fun c35 => ?_) (fun c35 => ?_)
          · have h := (if_pos c35).symm.trans h
            exact J40  H _ ls h  hP hD hS (lv_sub hl [0, 1, 2, 3, 4] rfl)
          · have h := (if_neg c35).symm.trans h
            refine lv_iconst (v := 0) hx hb dX8_isFree_38 (by decide) ?_
            obtain rfl := Option.some.inj h
            have hP9 := hP.sub (ws' := (bX8 a0 us ks s_s (bX6 a1 up kp p_p []))) [0, 1, 2, 3, 4, 5, 6, 7, 8, 9, 10, 11, 12] rfl
            have hD9 := hD.sub (ws' := (bX8 a0 us ks s_s (bX6 a1 up kp p_p []))) [0, 1, 2, 3, 4, 5, 6, 7, 8, 9, 10, 11, 12] (by decide) rfl
            have hK9 := hK.sub (tys' := []) [] rfl
            rw [hQQ]
            exact W.zret (v := (0 : Int32)) hx hb hr rfl (fun t ht hW => ⟨⟨(0 : Int32), (), rfl, ⟨rfl, (by decide)⟩, by rw [ht]; exact hP9, va_K.moved hW.alike hK9, hD9⟩, hS.F ht⟩) hS.2.2 dX8_isFree_39
  exact L3 FU (0 : Int32) s.heap _ ls h  hP hD hS (lv_sub hl [0, 1, 2, 3, 4] rfl)
theorem dX8_fill_100 : decode cX8_fill 100 = .ok (.iinc 5 1, 3) := by decide +kernel
theorem dX8_fill_103 : decode cX8_fill 103 = .ok (.goto (-51), 3) := by decide +kernel
theorem dX8_fill_106 : decode cX8_fill 106 = .ok (.return_, 1) := by decide +kernel
theorem dX8_fill_22 : decode cX8_fill 22 = .ok (.iload_n 3, 1) := by decide +kernel
theorem dX8_fill_23 : decode cX8_fill 23 = .ok (.iload_n 2, 1) := by decide +kernel
theorem dX8_fill_24 : decode cX8_fill 24 = .ok (.ishr, 1) := by decide +kernel
theorem dX8_fill_25 : decode cX8_fill 25 = .ok (.iconst 1, 1) := by decide +kernel
theorem dX8_fill_26 : decode cX8_fill 26 = .ok (.iand, 1) := by decide +kernel
theorem dX8_fill_27 : decode cX8_fill 27 = .ok (.ifCond .ne 22, 3) := by decide +kernel
theorem dX8_fill_30 : decode cX8_fill 30 = .ok (.aload_n 0, 1) := by decide +kernel
theorem dX8_fill_31 : decode cX8_fill 31 = .ok (.getfield 9, 3) := by decide +kernel
theorem dX8_fill_34 : decode cX8_fill 34 = .ok (.iload_n 2, 1) := by decide +kernel
theorem dX8_fill_35 : decode cX8_fill 35 = .ok (.iconst (-1), 1) := by decide +kernel
theorem dX8_fill_36 : decode cX8_fill 36 = .ok (.iastore, 1) := by decide +kernel
theorem dX8_fill_37 : decode cX8_fill 37 = .ok (.aload_n 0, 1) := by decide +kernel
theorem dX8_fill_38 : decode cX8_fill 38 = .ok (.aload_n 1, 1) := by decide +kernel
theorem dX8_fill_39 : decode cX8_fill 39 = .ok (.iload_n 2, 1) := by decide +kernel
theorem dX8_fill_40 : decode cX8_fill 40 = .ok (.iconst 1, 1) := by decide +kernel
theorem dX8_fill_41 : decode cX8_fill 41 = .ok (.iadd, 1) := by decide +kernel
theorem dX8_fill_42 : decode cX8_fill 42 = .ok (.iload_n 3, 1) := by decide +kernel
theorem dX8_fill_43 : decode cX8_fill 43 = .ok (.iload 4, 2) := by decide +kernel
theorem dX8_fill_45 : decode cX8_fill 45 = .ok (.invokevirtual 22, 3) := by decide +kernel
theorem dX8_fill_48 : decode cX8_fill 48 = .ok (.return_, 1) := by decide +kernel
theorem dX8_fill_49 : decode cX8_fill 49 = .ok (.iconst 0, 1) := by decide +kernel
theorem dX8_fill_50 : decode cX8_fill 50 = .ok (.istore 5, 2) := by decide +kernel
theorem dX8_fill_52 : decode cX8_fill 52 = .ok (.iload 5, 2) := by decide +kernel
theorem dX8_fill_54 : decode cX8_fill 54 = .ok (.aload_n 1, 1) := by decide +kernel
theorem dX8_fill_55 : decode cX8_fill 55 = .ok (.getfield 34, 3) := by decide +kernel
theorem dX8_fill_58 : decode cX8_fill 58 = .ok (.if_icmp .ge 48, 3) := by decide +kernel
theorem dX8_fill_61 : decode cX8_fill 61 = .ok (.aload_n 0, 1) := by decide +kernel
theorem dX8_fill_62 : decode cX8_fill 62 = .ok (.getfield 18, 3) := by decide +kernel
theorem dX8_fill_65 : decode cX8_fill 65 = .ok (.iload 4, 2) := by decide +kernel
theorem dX8_fill_67 : decode cX8_fill 67 = .ok (.if_icmp .ge 39, 3) := by decide +kernel
theorem dX8_fill_70 : decode cX8_fill 70 = .ok (.aload_n 0, 1) := by decide +kernel
theorem dX8_fill_71 : decode cX8_fill 71 = .ok (.aload_n 1, 1) := by decide +kernel
theorem dX8_fill_72 : decode cX8_fill 72 = .ok (.iload_n 2, 1) := by decide +kernel
theorem dX8_fill_73 : decode cX8_fill 73 = .ok (.iload 5, 2) := by decide +kernel
theorem dX8_fill_75 : decode cX8_fill 75 = .ok (.invokevirtual 37, 3) := by decide +kernel
theorem dX8_fill_78 : decode cX8_fill 78 = .ok (.ifCond .eq 22, 3) := by decide +kernel
theorem dX8_fill_81 : decode cX8_fill 81 = .ok (.aload_n 0, 1) := by decide +kernel
theorem dX8_fill_82 : decode cX8_fill 82 = .ok (.getfield 9, 3) := by decide +kernel
theorem dX8_fill_85 : decode cX8_fill 85 = .ok (.iload_n 2, 1) := by decide +kernel
theorem dX8_fill_86 : decode cX8_fill 86 = .ok (.iload 5, 2) := by decide +kernel
theorem dX8_fill_88 : decode cX8_fill 88 = .ok (.iastore, 1) := by decide +kernel
theorem dX8_fill_89 : decode cX8_fill 89 = .ok (.aload_n 0, 1) := by decide +kernel
theorem dX8_fill_90 : decode cX8_fill 90 = .ok (.aload_n 1, 1) := by decide +kernel
theorem dX8_fill_91 : decode cX8_fill 91 = .ok (.iload_n 2, 1) := by decide +kernel
theorem dX8_fill_92 : decode cX8_fill 92 = .ok (.iconst 1, 1) := by decide +kernel
theorem dX8_fill_93 : decode cX8_fill 93 = .ok (.iadd, 1) := by decide +kernel
theorem dX8_fill_94 : decode cX8_fill 94 = .ok (.iload_n 3, 1) := by decide +kernel
theorem dX8_fill_95 : decode cX8_fill 95 = .ok (.iload 4, 2) := by decide +kernel
theorem dX8_fill_97 : decode cX8_fill 97 = .ok (.invokevirtual 22, 3) := by decide +kernel
def vfX8_fill_s4 : List Cond := .code yX8_fill cX8_fill 6 none :: ([.fieldLink RX8 26 "HookPier$Plan" "askers" "I", .methodLink RX8 31 yX8_keepRow, .instanceMethod yX8_keepRow, .selects RX8 yX8_keepRow yX8_keepRow, .initialized RX8, .code yX8_keepRow cX8_keepRow 1 none, .fieldLink RX8 18 "HookPier$Seats" "found" "I", .fieldLink RX8 9 "HookPier$Seats" "row" "[I", .fieldLink RX8 15 "HookPier$Seats" "first" "[I", .methodLink RX8 41 arraycopyName, .native arraycopyName, .static arraycopyName, .initialized "java/lang/System", .fieldLink RX8 34 "HookPier$Plan" "spots" "I", .methodLink RX8 37 yX8_isFree, .instanceMethod yX8_isFree, .selects RX8 yX8_isFree yX8_isFree, .code yX8_isFree cX8_isFree 5 (some .boolean), .methodLink RX8 47 yX6_isTangle, .instanceMethod yX6_isTangle, .selects RX6 yX6_isTangle yX6_isTangle, .initialized RX6, .code yX6_isTangle cX6_isTangle 5 (some .boolean), .methodLink RX6 89 Lib.Math.abs.name, .static Lib.Math.abs.name, .initialized "java/lang/Math", .code Lib.Math.abs.name Lib.Math.abs.code 1 (some .int), .fieldLink RX6 39 "HookPier$Plan" "reach" "[I", .methodLink RX8 22 yX8_fill, .instanceMethod yX8_fill, .selects RX8 yX8_fill yX8_fill, .code yX8_fill cX8_fill 6 none] ++ wsX60 ++ wsX80)
theorem ifX8_fill_s4_X6 : ∀ w ∈ wsX60, w ∈ vfX8_fill_s4 := fun _ h => List.mem_cons_of_mem _ (List.mem_append_left _ (List.mem_append_right _ h))
theorem ifX8_fill_s4_X8 : ∀ w ∈ wsX80, w ∈ vfX8_fill_s4 := fun _ h => List.mem_cons_of_mem _ (List.mem_append_right _ h)
set_option maxRecDepth 20000 in
theorem gfX8_fill_s4_0 : GoodIn vfX8_fill_s4 (wsV RX8 31 RX8 yX8_keepRow vfX8_keepRow) := goodIn_app (goodIn_r [.methodLink RX8 31 yX8_keepRow, .instanceMethod yX8_keepRow, .selects RX8 yX8_keepRow yX8_keepRow, .initialized RX8] [2, 3, 4, 5] (by decide +kernel) (by decide +kernel)) (goodIn_ca (goodIn_r (.code yX8_keepRow cX8_keepRow 1 none :: [.fieldLink RX8 18 "HookPier$Seats" "found" "I", .fieldLink RX8 9 "HookPier$Seats" "row" "[I", .fieldLink RX8 15 "HookPier$Seats" "first" "[I", .methodLink RX8 41 arraycopyName, .native arraycopyName, .static arraycopyName, .initialized "java/lang/System"]) [6, 7, 8, 9, 10, 11, 12, 13] (by decide +kernel) (by decide +kernel) : GoodIn vfX8_fill_s4 (.code yX8_keepRow cX8_keepRow 1 none :: [.fieldLink RX8 18 "HookPier$Seats" "found" "I", .fieldLink RX8 9 "HookPier$Seats" "row" "[I", .fieldLink RX8 15 "HookPier$Seats" "first" "[I", .methodLink RX8 41 arraycopyName, .native arraycopyName, .static arraycopyName, .initialized "java/lang/System"])) (goodIn_sub ifX8_fill_s4_X8 (by decide +kernel)))
set_option maxRecDepth 20000 in
theorem gfX8_fill_s4_1 : GoodIn vfX8_fill_s4 (wsV RX8 37 RX8 yX8_isFree vfX8_isFree) := goodIn_app (goodIn_r [.methodLink RX8 37 yX8_isFree, .instanceMethod yX8_isFree, .selects RX8 yX8_isFree yX8_isFree, .initialized RX8] [15, 16, 17, 5] (by decide +kernel) (by decide +kernel)) (goodIn_ca (goodIn_ca (goodIn_r (.code yX8_isFree cX8_isFree 5 (some .boolean) :: [.fieldLink RX8 9 "HookPier$Seats" "row" "[I", .methodLink RX8 47 yX6_isTangle, .instanceMethod yX6_isTangle, .selects RX6 yX6_isTangle yX6_isTangle, .initialized RX6, .code yX6_isTangle cX6_isTangle 5 (some .boolean), .methodLink RX6 89 Lib.Math.abs.name, .static Lib.Math.abs.name, .initialized "java/lang/Math", .code Lib.Math.abs.name Lib.Math.abs.code 1 (some .int), .fieldLink RX6 39 "HookPier$Plan" "reach" "[I"]) [18, 8, 19, 20, 21, 22, 23, 24, 25, 26, 27, 28] (by decide +kernel) (by decide +kernel) : GoodIn vfX8_fill_s4 (.code yX8_isFree cX8_isFree 5 (some .boolean) :: [.fieldLink RX8 9 "HookPier$Seats" "row" "[I", .methodLink RX8 47 yX6_isTangle, .instanceMethod yX6_isTangle, .selects RX6 yX6_isTangle yX6_isTangle, .initialized RX6, .code yX6_isTangle cX6_isTangle 5 (some .boolean), .methodLink RX6 89 Lib.Math.abs.name, .static Lib.Math.abs.name, .initialized "java/lang/Math", .code Lib.Math.abs.name Lib.Math.abs.code 1 (some .int), .fieldLink RX6 39 "HookPier$Plan" "reach" "[I"])) (goodIn_sub ifX8_fill_s4_X8 (by decide +kernel))) (goodIn_sub ifX8_fill_s4_X6 (by decide +kernel)))
set_option maxRecDepth 20000 in
theorem gfX8_fill_s4_2 : GoodIn vfX8_fill_s4 (wsV RX8 22 RX8 yX8_fill vfX8_fill_s5) := goodIn_app (goodIn_r [.methodLink RX8 22 yX8_fill, .instanceMethod yX8_fill, .selects RX8 yX8_fill yX8_fill, .initialized RX8] [29, 30, 31, 5] (by decide +kernel) (by decide +kernel)) (goodIn_ca (goodIn_ca (goodIn_r (.code yX8_fill cX8_fill 6 none :: [.fieldLink RX8 26 "HookPier$Plan" "askers" "I", .methodLink RX8 31 yX8_keepRow, .instanceMethod yX8_keepRow, .selects RX8 yX8_keepRow yX8_keepRow, .initialized RX8, .code yX8_keepRow cX8_keepRow 1 none, .fieldLink RX8 18 "HookPier$Seats" "found" "I", .fieldLink RX8 9 "HookPier$Seats" "row" "[I", .fieldLink RX8 15 "HookPier$Seats" "first" "[I", .methodLink RX8 41 arraycopyName, .native arraycopyName, .static arraycopyName, .initialized "java/lang/System"]) [0, 1, 2, 3, 4, 5, 6, 7, 8, 9, 10, 11, 12, 13] (by decide +kernel) (by decide +kernel) : GoodIn vfX8_fill_s4 (.code yX8_fill cX8_fill 6 none :: [.fieldLink RX8 26 "HookPier$Plan" "askers" "I", .methodLink RX8 31 yX8_keepRow, .instanceMethod yX8_keepRow, .selects RX8 yX8_keepRow yX8_keepRow, .initialized RX8, .code yX8_keepRow cX8_keepRow 1 none, .fieldLink RX8 18 "HookPier$Seats" "found" "I", .fieldLink RX8 9 "HookPier$Seats" "row" "[I", .fieldLink RX8 15 "HookPier$Seats" "first" "[I", .methodLink RX8 41 arraycopyName, .native arraycopyName, .static arraycopyName, .initialized "java/lang/System"])) (goodIn_sub ifX8_fill_s4_X6 (by decide +kernel))) (goodIn_sub ifX8_fill_s4_X8 (by decide +kernel)))
set_option maxHeartbeats 2000000 in
set_option maxRecDepth 100000 in
theorem kfX8_fill_s4 (l : Launch) (dC : Nat → ClassId) (dI : Nat → Nat → Nat) (a0 : Nat) (a1 : Nat) (k3 : Int32) (k4 : Int32) (us : Nat → Nat) (ks : Nat → ClassId) (up : Nat → Nat) (kp : Nat → ClassId) (s_s : TX8_s) (p_p : TX6_p) (sz : Nat) (out : TX8_s) (h : f_X8_fill_s4 k3 k4 s_s p_p = some out) : Met l yX8_fill vfX8_fill_s4 ({ frames := 3, cells := 0, slots := 0, locals := 85 }) (PC (dC, dI) [.ref a0, .ref a1, .int 4, .int k3, .int k4] sz (bX8 a0 us ks s_s (bX6 a1 up kp p_p [])) (tX8 ks (tX6 kp ([])))) (va_Qv (S := Unit) (fun _ => True) (fun _ t => BC (dC, dI) (va_A (bX8 a0 us ks s_s (bX6 a1 up kp p_p [])) sz) (bX8 a0 us ks out (bX6 a1 up kp p_p [])) [] t) (va_A (bX8 a0 us ks s_s (bX6 a1 up kp p_p [])) sz)) 0 0 (va_A (bX8 a0 us ks s_s (bX6 a1 up kp p_p [])) sz) := by
  refine Met.ofW (cc := cX8_fill) (maxL := 6) (ret := none) (by decide) rfl ?_
  intro p e s m args below meth c s₁ B0 hml hv
  obtain ⟨rfl, hsz, hP, hK, hD0, hN⟩ := hv
  have hx := B0.exec
  have hb := B0.bytes
  have hr := B0.returns
  have hts := atoms_spec (ws := vfX8_fill_s4) B0.pre
  have hown : s.vm.findClass RX8 = some m.cls := findClass_of_methodNamed B0.named
  have hlocks := B0.notSynchronized
  subst hsz
  have hD := hD0.self (sz := s.heap.size)
  generalize hAe : va_A (bX8 a0 us ks s_s (bX6 a1 up kp p_p [])) s.heap.size = A at hD ⊢
  have hA : ∀ q : Nat, s.heap.size ≤ q → A q := fun q h => by rw [← hAe]; exact Or.inr h
  have hS : va_S A s.heap s.heap [] := va_S.rf
  have hP : va_P (dC, dI) vwCl (bX8 a0 us ks s_s (bX6 a1 up kp p_p [])) s.heap := hP
  have hl := lv_entry ([.ref a0, .ref a1, .int 4, .int k3, .int k4]) (n := 6) (Nat.le_of_ble_eq_true rfl)
  rw [lg_entry_eq]
  generalize (lg_sl ([.ref a0, .ref a1, .int 4, .int k3, .int k4]) ++ List.replicate (6 - (lg_sl ([.ref a0, .ref a1, .int 4, .int k3, .int k4])).length) Slot.unset).toArray = ls at hl ⊢
  have hl : lv_has ls 6 [(0, .ref a0), (1, .ref a1), (2, .int 4), (3, .int k3), (4, .int k4)] := hl
  refine W_q (fun QQ hQQ => ?_)
  rw [f_X8_fill_s4] at h
  refine lv_iload_n hx hb dX8_fill_0 rfl (lv_at hl 2 rfl) ?_
  refine lv_aload_n hx hb dX8_fill_1 rfl (lv_at hl 1 rfl) ?_
  refine va_get (D := (dC, dI)) (ci := 4) (v := .int p_p.2.2.2.2.2.1) (C := RX6) (T := TX6) (N := 18) hx hb hts ifX8_fill_s4_X6 hown hK hP 3 rfl rfl 5 (by decide) (hts (.fieldLink RX8 26 "HookPier$Plan" "askers" "I") (List.mem_of_getElem? (i := 1) rfl)) (fun _ h9 => h9) rfl dX8_fill_2 ?_
  refine lv_icmp_ge (tgt := 17) hx hb dX8_fill_5 (by decide) (fun c5 => ?_) (fun c5 => ?_)
  · have h := (if_pos c5).symm.trans h
    refine lv_aload_n hx hb dX8_fill_17 rfl (lv_at hl 0 rfl) ?_
    obtain ⟨o18, eo18⟩ : ∃ o, o = f_X8_keepRow s_s := ⟨_, rfl⟩
    have h := nm_of h o18 eo18
    refine cl_v (wc := (bX8 a0 us ks s_s [])) (wr := (bX6 a1 up kp p_p [])) (va_runV (As := []) (rest := []) ⟨hx, hb, hml, hown, hts⟩ (kfX8_keepRow l dC dI a0 us ks s_s s.heap.size o18 eo18.symm) (cwV 0 hts gfX8_fill_s4_0 rfl rfl rfl (by decide +kernel) ⟨(Nat.le_of_ble_eq_true rfl), (Nat.le_of_ble_eq_true rfl)⟩) (PV (hP.sub (ws' := (bX8 a0 us ks s_s [])) [0, 1, 2] rfl) (hK.sub (tys' := (tX8 ks ([]))) [0, 1] rfl) (hD.sub (ws' := (bX8 a0 us ks s_s [])) [0, 1, 2] (by decide) rfl) hN 0 rfl rfl) rfl rfl hl.1 rfl (lv_room (Nat.le_of_ble_eq_true rfl)) dX8_fill_18 ⟨(Nat.le_of_ble_eq_true rfl), (Nat.le_of_ble_eq_true rfl)⟩) hP hD hK hS hA [0, 1, 2] [3, 4, 5, 6, 7, 8, 9, 10, 11, 12] rfl rfl (by decide) (by decide) (fun _ H locs hw hP hD _ hS => ?_)
    have hP : va_P (dC, dI) vwCl (bX6 a1 up kp p_p (bX8 a0 us ks o18 [])) H := hP
    have hD : va_D A (bX6 a1 up kp p_p (bX8 a0 us ks o18 [])) := hD
    obtain rfl := Option.some.inj h
    have hP9 := hP.sub (ws' := (bX8 a0 us ks o18 (bX6 a1 up kp p_p []))) [10, 11, 12, 0, 1, 2, 3, 4, 5, 6, 7, 8, 9] rfl
    have hD9 := hD.sub (ws' := (bX8 a0 us ks o18 (bX6 a1 up kp p_p []))) [10, 11, 12, 0, 1, 2, 3, 4, 5, 6, 7, 8, 9] (by decide) rfl
    have hK9 := hK.sub (tys' := []) [] rfl
    rw [hQQ]
    exact W.vret hx hb hr (fun t ht hW => ⟨⟨(), rfl, trivial, by rw [ht]; exact hP9, va_K.moved hW.alike hK9, hD9⟩, hS.F ht⟩) hS.2.2 dX8_fill_21
  · have h := (if_neg c5).symm.trans h
    refine lv_iload_n hx hb dX8_fill_8 rfl (lv_at hl 2 rfl) ?_
    refine lv_aload_n hx hb dX8_fill_9 rfl (lv_at hl 0 rfl) ?_
    refine va_get (D := (dC, dI)) (ci := 6) (v := .ref (us 0)) (C := RX8) (T := TX8) (N := 3) hx hb hts ifX8_fill_s4_X8 hown hK hP 0 rfl rfl 0 (by decide) (hts (.fieldLink RX8 9 "HookPier$Seats" "row" "[I") (List.mem_of_getElem? (i := 8) rfl)) (fun _ h9 => h9) rfl dX8_fill_10 ?_
    refine va_alen (v := 5) hx hb hK hP 1 0 rfl rfl rfl dX8_fill_13 ?_
    refine lv_icmp_lt (tgt := 22) hx hb dX8_fill_14 (by decide) (fun _ => ?_) (fun c14 => absurd c14 (by decide))
    refine lv_iload_n hx hb dX8_fill_22 rfl (lv_at hl 3 rfl) ?_
    refine lv_iload_n hx hb dX8_fill_23 rfl (lv_at hl 2 rfl) ?_
    refine lv_ishr hx hb dX8_fill_24 ?_
    refine lv_iconst (v := 1) hx hb dX8_fill_25 (by decide) ?_
    refine lv_iand hx hb dX8_fill_26 ?_
    refine lv_if_ne (tgt := 49) hx hb dX8_fill_27 (by decide) (fun c27 => ?_) (fun c27 => ?_)
    · have h := (if_neg c27).symm.trans h
      refine lv_iconst (v := 0) hx hb dX8_fill_49 (by decide) ?_
      refine lv_istore (lv' := [(5, .int 0), (0, .ref a0), (1, .ref a1), (2, .int 4), (3, .int k3), (4, .int k4)]) hx hb dX8_fill_50 hl (by decide) rfl (fun ls hl => ?_)
      have L52 : ∀ (n52 : Nat) (v52_l5 : Int32) (v52_s_s : TX8_s) (H : Heap) (locs : List Loc) (ls : Array Slot), f_X8_fill_s4_L52 k3 k4 p_p n52 v52_l5 v52_s_s = some out → va_P (dC, dI) vwCl (bX8 a0 us ks v52_s_s (bX6 a1 up kp p_p [])) H → va_D A (bX8 a0 us ks v52_s_s (bX6 a1 up kp p_p [])) → va_S A s.heap H locs → lv_has ls 6 [(5, .int v52_l5), (0, .ref a0), (1, .ref a1), (2, .int 4), (3, .int k3), (4, .int k4)] → W p l e (headSpec vfX8_fill_s4 { frames := 3, cells := 0, slots := 0, locals := 85 }).room s m ([.ref a0, .ref a1, .int 4, .int k3, .int k4]).toArray below meth c H locs 0 0 QQ (F0 m 52 ls []) := by
        intro n52
        induction n52 with
        | zero =>
          intro v52_l5 v52_s_s H locs ls h  _ _ _ _
          rw [f_X8_fill_s4_L52] at h
          cases h
        | succ n52 ih52 =>
          intro v52_l5 v52_s_s H locs ls h  hP hD hS hl
          rw [f_X8_fill_s4_L52] at h
          refine lv_iload hx hb dX8_fill_52 (lv_at hl 0 rfl) ?_
          refine lv_aload_n hx hb dX8_fill_54 rfl (lv_at hl 2 rfl) ?_
          refine va_get (D := (dC, dI)) (ci := 4) (v := .int p_p.1) (C := RX6) (T := TX6) (N := 18) hx hb hts ifX8_fill_s4_X6 hown hK hP 3 rfl rfl 0 (by decide) (hts (.fieldLink RX8 34 "HookPier$Plan" "spots" "I") (List.mem_of_getElem? (i := 14) rfl)) (fun _ h9 => h9) rfl dX8_fill_55 ?_
          refine lv_icmp_ge (tgt := 106) hx hb dX8_fill_58 (by decide) (fun c58 => ?_) (fun c58 => ?_)
          · have h := (if_pos c58).symm.trans h
            obtain rfl := Option.some.inj h
            have hP9 := hP.sub (ws' := (bX8 a0 us ks v52_s_s (bX6 a1 up kp p_p []))) [0, 1, 2, 3, 4, 5, 6, 7, 8, 9, 10, 11, 12] rfl
            have hD9 := hD.sub (ws' := (bX8 a0 us ks v52_s_s (bX6 a1 up kp p_p []))) [0, 1, 2, 3, 4, 5, 6, 7, 8, 9, 10, 11, 12] (by decide) rfl
            have hK9 := hK.sub (tys' := []) [] rfl
            rw [hQQ]
            exact W.vret hx hb hr (fun t ht hW => ⟨⟨(), rfl, trivial, by rw [ht]; exact hP9, va_K.moved hW.alike hK9, hD9⟩, hS.F ht⟩) hS.2.2 dX8_fill_106
          · have h := (if_neg c58).symm.trans h
            refine lv_aload_n hx hb dX8_fill_61 rfl (lv_at hl 1 rfl) ?_
            refine va_get (D := (dC, dI)) (ci := 6) (v := .int v52_s_s.2.2) (C := RX8) (T := TX8) (N := 3) hx hb hts ifX8_fill_s4_X8 hown hK hP 0 rfl rfl 2 (by decide) (hts (.fieldLink RX8 18 "HookPier$Seats" "found" "I") (List.mem_of_getElem? (i := 7) rfl)) (fun _ h9 => h9) rfl dX8_fill_62 ?_
            refine lv_iload hx hb dX8_fill_65 (lv_at hl 5 rfl) ?_
            refine lv_icmp_ge (tgt := 106) hx hb dX8_fill_67 (by decide) (fun c67 => ?_) (fun c67 => ?_)
            · have h := (if_pos c67).symm.trans h
              obtain rfl := Option.some.inj h
              have hP9 := hP.sub (ws' := (bX8 a0 us ks v52_s_s (bX6 a1 up kp p_p []))) [0, 1, 2, 3, 4, 5, 6, 7, 8, 9, 10, 11, 12] rfl
              have hD9 := hD.sub (ws' := (bX8 a0 us ks v52_s_s (bX6 a1 up kp p_p []))) [0, 1, 2, 3, 4, 5, 6, 7, 8, 9, 10, 11, 12] (by decide) rfl
              have hK9 := hK.sub (tys' := []) [] rfl
              rw [hQQ]
              exact W.vret hx hb hr (fun t ht hW => ⟨⟨(), rfl, trivial, by rw [ht]; exact hP9, va_K.moved hW.alike hK9, hD9⟩, hS.F ht⟩) hS.2.2 dX8_fill_106
            · have h := (if_neg c67).symm.trans h
              refine lv_aload_n hx hb dX8_fill_70 rfl (lv_at hl 1 rfl) ?_
              refine lv_aload_n hx hb dX8_fill_71 rfl (lv_at hl 2 rfl) ?_
              refine lv_iload_n hx hb dX8_fill_72 rfl (lv_at hl 3 rfl) ?_
              refine lv_iload hx hb dX8_fill_73 (lv_at hl 0 rfl) ?_
              obtain ⟨o75, eo75, h⟩ := bd_of h
              refine cl_i (wc := (bX8 a0 us ks v52_s_s (bX6 a1 up kp p_p []))) (wr := []) (va_runV (As := [.ref a1, .int 4, .int v52_l5]) (rest := []) ⟨hx, hb, hml, hown, hts⟩ (kfX8_isFree l dC dI a0 a1 (4 : Int32) v52_l5 us ks up kp v52_s_s p_p H.size o75 eo75) (cwV 3 hts gfX8_fill_s4_1 rfl rfl rfl (by decide +kernel) ⟨(Nat.le_of_ble_eq_true rfl), (Nat.le_of_ble_eq_true rfl)⟩) (PV (hP.sub (ws' := (bX8 a0 us ks v52_s_s (bX6 a1 up kp p_p []))) [0, 1, 2, 3, 4, 5, 6, 7, 8, 9, 10, 11, 12] rfl) (hK.sub (tys' := (tX8 ks (tX6 kp ([])))) [0, 1, 2, 3, 4, 5, 6, 7, 8, 9, 10] rfl) (hD.sub (ws' := (bX8 a0 us ks v52_s_s (bX6 a1 up kp p_p []))) [0, 1, 2, 3, 4, 5, 6, 7, 8, 9, 10, 11, 12] (by decide) rfl) hN 0 rfl rfl) rfl rfl hl.1 rfl (lv_room (Nat.le_of_ble_eq_true rfl)) dX8_fill_75 ⟨(Nat.le_of_ble_eq_true rfl), (Nat.le_of_ble_eq_true rfl)⟩) hP hD hK hS hA [0, 1, 2, 3, 4, 5, 6, 7, 8, 9, 10, 11, 12] [] rfl rfl (by decide) (by decide) (fun r75 _ H locs hw hP hD _ hS => ?_)
              obtain ⟨hw, br75⟩ := hw
              obtain rfl := hw.symm
              have hP : va_P (dC, dI) vwCl (bX8 a0 us ks v52_s_s (bX6 a1 up kp p_p [])) H := hP
              have hD : va_D A (bX8 a0 us ks v52_s_s (bX6 a1 up kp p_p [])) := hD
              have J100 : ∀ (v100_s_s : TX8_s) (H : Heap) (locs : List Loc) (ls : Array Slot), f_X8_fill_s4_J100 (f_X8_fill_s4_L52 k3 k4 p_p n52) v52_l5 v100_s_s = some out → va_P (dC, dI) vwCl (bX8 a0 us ks v100_s_s (bX6 a1 up kp p_p [])) H → va_D A (bX8 a0 us ks v100_s_s (bX6 a1 up kp p_p [])) → va_S A s.heap H locs → lv_has ls 6 [(5, .int v52_l5), (0, .ref a0), (1, .ref a1), (2, .int 4), (3, .int k3), (4, .int k4)] → W p l e (headSpec vfX8_fill_s4 { frames := 3, cells := 0, slots := 0, locals := 85 }).room s m ([.ref a0, .ref a1, .int 4, .int k3, .int k4]).toArray below meth c H locs 0 0 QQ (F0 m 100 ls []) := by
                intro v100_s_s H locs ls h  hP hD hS hl
                rw [f_X8_fill_s4_J100] at h
                refine lv_iinc (v := (v52_l5 + (1 : Int32))) (lv' := [(5, .int (v52_l5 + (1 : Int32))), (0, .ref a0), (1, .ref a1), (2, .int 4), (3, .int k3), (4, .int k4)]) hx hb dX8_fill_100 hl (k := 0) rfl rfl (by decide) rfl (fun ls hl => ?_)
                refine lv_goto (tgt := 52) hx hb dX8_fill_103 (by decide) ?_
                exact ih52 (v52_l5 + (1 : Int32)) v100_s_s H _ ls h  hP hD hS (lv_sub hl [0, 1, 2, 3, 4, 5] rfl)
              refine lv_if_eq (tgt := 100) hx hb dX8_fill_78 (by decide) (fun c78 => ?_) (fun c78 => ?_)
              · have h := (if_pos c78).symm.trans h
                exact J100 v52_s_s H _ ls h  hP hD hS (lv_sub hl [0, 1, 2, 3, 4, 5] rfl)
              · have h := (if_neg c78).symm.trans h
                refine lv_aload_n hx hb dX8_fill_81 rfl (lv_at hl 1 rfl) ?_
                refine va_get (D := (dC, dI)) (ci := 6) (v := .ref (us 0)) (C := RX8) (T := TX8) (N := 3) hx hb hts ifX8_fill_s4_X8 hown hK hP 0 rfl rfl 0 (by decide) (hts (.fieldLink RX8 9 "HookPier$Seats" "row" "[I") (List.mem_of_getElem? (i := 8) rfl)) (fun _ h9 => h9) rfl dX8_fill_82 ?_
                refine lv_iload_n hx hb dX8_fill_85 rfl (lv_at hl 3 rfl) ?_
                refine lv_iload hx hb dX8_fill_86 (lv_at hl 0 rfl) ?_
                refine va_iast hx hb hK hP hD hS 1 0 rfl rfl (by unfold vp_in; decide) dX8_fill_88 (fun H locs hP hD hS => ?_)
                have hP : va_P (dC, dI) vwCl (bX8 a0 us ks ((upd v52_s_s.1 ((4 : Int32)).toNatClampNeg v52_l5), v52_s_s.2) (bX6 a1 up kp p_p [])) H := hP
                have hD : va_D A (bX8 a0 us ks ((upd v52_s_s.1 ((4 : Int32)).toNatClampNeg v52_l5), v52_s_s.2) (bX6 a1 up kp p_p [])) := hD
                refine lv_aload_n hx hb dX8_fill_89 rfl (lv_at hl 1 rfl) ?_
                refine lv_aload_n hx hb dX8_fill_90 rfl (lv_at hl 2 rfl) ?_
                refine lv_iload_n hx hb dX8_fill_91 rfl (lv_at hl 3 rfl) ?_
                refine lv_iconst (v := 1) hx hb dX8_fill_92 (by decide) ?_
                refine lv_iadd hx hb dX8_fill_93 ?_
                refine lv_topi (fun z93 e93 => ?_)
                obtain rfl : z93 = 5 := e93.trans (by decide)
                refine lv_iload_n hx hb dX8_fill_94 rfl (lv_at hl 4 rfl) ?_
                refine lv_iload hx hb dX8_fill_95 (lv_at hl 5 rfl) ?_
                obtain ⟨o97, eo97⟩ : ∃ o, o = f_X8_fill_s5 k3 k4 ((upd v52_s_s.1 ((4 : Int32)).toNatClampNeg v52_l5), v52_s_s.2) p_p := ⟨_, rfl⟩
                have h := nm_of h o97 eo97
                refine cl_v (wc := (bX8 a0 us ks ((upd v52_s_s.1 ((4 : Int32)).toNatClampNeg v52_l5), v52_s_s.2) (bX6 a1 up kp p_p []))) (wr := []) (va_runV (As := [.ref a1, .int 5, .int k3, .int k4]) (rest := []) ⟨hx, hb, hml, hown, hts⟩ (kfX8_fill_s5 l dC dI a0 a1 k3 k4 us ks up kp ((upd v52_s_s.1 ((4 : Int32)).toNatClampNeg v52_l5), v52_s_s.2) p_p H.size o97 eo97.symm) (cwV 4 hts gfX8_fill_s4_2 rfl rfl rfl (by decide +kernel) ⟨(Nat.le_of_ble_eq_true rfl), (Nat.le_of_ble_eq_true rfl)⟩) (PV (hP.sub (ws' := (bX8 a0 us ks ((upd v52_s_s.1 ((4 : Int32)).toNatClampNeg v52_l5), v52_s_s.2) (bX6 a1 up kp p_p []))) [0, 1, 2, 3, 4, 5, 6, 7, 8, 9, 10, 11, 12] rfl) (hK.sub (tys' := (tX8 ks (tX6 kp ([])))) [0, 1, 2, 3, 4, 5, 6, 7, 8, 9, 10] rfl) (hD.sub (ws' := (bX8 a0 us ks ((upd v52_s_s.1 ((4 : Int32)).toNatClampNeg v52_l5), v52_s_s.2) (bX6 a1 up kp p_p []))) [0, 1, 2, 3, 4, 5, 6, 7, 8, 9, 10, 11, 12] (by decide) rfl) hN 0 rfl rfl) rfl rfl hl.1 rfl (lv_room (Nat.le_of_ble_eq_true rfl)) dX8_fill_97 ⟨(Nat.le_of_ble_eq_true rfl), (Nat.le_of_ble_eq_true rfl)⟩) hP hD hK hS hA [0, 1, 2, 3, 4, 5, 6, 7, 8, 9, 10, 11, 12] [] rfl rfl (by decide) (by decide) (fun _ H locs hw hP hD _ hS => ?_)
                have hP : va_P (dC, dI) vwCl (bX8 a0 us ks o97 (bX6 a1 up kp p_p [])) H := hP
                have hD : va_D A (bX8 a0 us ks o97 (bX6 a1 up kp p_p [])) := hD
                exact J100 o97 H _ ls h  hP hD hS (lv_sub hl [0, 1, 2, 3, 4, 5] rfl)
      exact L52 FU (0 : Int32) s_s s.heap _ ls h  hP hD hS (lv_sub hl [0, 1, 2, 3, 4, 5] rfl)
    · have h := (if_pos c27).symm.trans h
      refine lv_aload_n hx hb dX8_fill_30 rfl (lv_at hl 0 rfl) ?_
      refine va_get (D := (dC, dI)) (ci := 6) (v := .ref (us 0)) (C := RX8) (T := TX8) (N := 3) hx hb hts ifX8_fill_s4_X8 hown hK hP 0 rfl rfl 0 (by decide) (hts (.fieldLink RX8 9 "HookPier$Seats" "row" "[I") (List.mem_of_getElem? (i := 8) rfl)) (fun _ h9 => h9) rfl dX8_fill_31 ?_
      refine lv_iload_n hx hb dX8_fill_34 rfl (lv_at hl 2 rfl) ?_
      refine lv_iconst (v := (-1)) hx hb dX8_fill_35 (by decide) ?_
      refine va_iast hx hb hK hP hD hS 1 0 rfl rfl (by unfold vp_in; decide) dX8_fill_36 (fun H locs hP hD hS => ?_)
      have hP : va_P (dC, dI) vwCl (bX8 a0 us ks ((upd s_s.1 ((4 : Int32)).toNatClampNeg (-1 : Int32)), s_s.2) (bX6 a1 up kp p_p [])) H := hP
      have hD : va_D A (bX8 a0 us ks ((upd s_s.1 ((4 : Int32)).toNatClampNeg (-1 : Int32)), s_s.2) (bX6 a1 up kp p_p [])) := hD
      refine lv_aload_n hx hb dX8_fill_37 rfl (lv_at hl 0 rfl) ?_
      refine lv_aload_n hx hb dX8_fill_38 rfl (lv_at hl 1 rfl) ?_
      refine lv_iload_n hx hb dX8_fill_39 rfl (lv_at hl 2 rfl) ?_
      refine lv_iconst (v := 1) hx hb dX8_fill_40 (by decide) ?_
      refine lv_iadd hx hb dX8_fill_41 ?_
      refine lv_topi (fun z41 e41 => ?_)
      obtain rfl : z41 = 5 := e41.trans (by decide)
      refine lv_iload_n hx hb dX8_fill_42 rfl (lv_at hl 3 rfl) ?_
      refine lv_iload hx hb dX8_fill_43 (lv_at hl 4 rfl) ?_
      obtain ⟨o45, eo45⟩ : ∃ o, o = f_X8_fill_s5 k3 k4 ((upd s_s.1 ((4 : Int32)).toNatClampNeg (-1 : Int32)), s_s.2) p_p := ⟨_, rfl⟩
      have h := nm_of h o45 eo45
      refine cl_v (wc := (bX8 a0 us ks ((upd s_s.1 ((4 : Int32)).toNatClampNeg (-1 : Int32)), s_s.2) (bX6 a1 up kp p_p []))) (wr := []) (va_runV (As := [.ref a1, .int 5, .int k3, .int k4]) (rest := []) ⟨hx, hb, hml, hown, hts⟩ (kfX8_fill_s5 l dC dI a0 a1 k3 k4 us ks up kp ((upd s_s.1 ((4 : Int32)).toNatClampNeg (-1 : Int32)), s_s.2) p_p H.size o45 eo45.symm) (cwV 4 hts gfX8_fill_s4_2 rfl rfl rfl (by decide +kernel) ⟨(Nat.le_of_ble_eq_true rfl), (Nat.le_of_ble_eq_true rfl)⟩) (PV (hP.sub (ws' := (bX8 a0 us ks ((upd s_s.1 ((4 : Int32)).toNatClampNeg (-1 : Int32)), s_s.2) (bX6 a1 up kp p_p []))) [0, 1, 2, 3, 4, 5, 6, 7, 8, 9, 10, 11, 12] rfl) (hK.sub (tys' := (tX8 ks (tX6 kp ([])))) [0, 1, 2, 3, 4, 5, 6, 7, 8, 9, 10] rfl) (hD.sub (ws' := (bX8 a0 us ks ((upd s_s.1 ((4 : Int32)).toNatClampNeg (-1 : Int32)), s_s.2) (bX6 a1 up kp p_p []))) [0, 1, 2, 3, 4, 5, 6, 7, 8, 9, 10, 11, 12] (by decide) rfl) hN 0 rfl rfl) rfl rfl hl.1 rfl (lv_room (Nat.le_of_ble_eq_true rfl)) dX8_fill_45 ⟨(Nat.le_of_ble_eq_true rfl), (Nat.le_of_ble_eq_true rfl)⟩) hP hD hK hS hA [0, 1, 2, 3, 4, 5, 6, 7, 8, 9, 10, 11, 12] [] rfl rfl (by decide) (by decide) (fun _ H locs hw hP hD _ hS => ?_)
      have hP : va_P (dC, dI) vwCl (bX8 a0 us ks o45 (bX6 a1 up kp p_p [])) H := hP
      have hD : va_D A (bX8 a0 us ks o45 (bX6 a1 up kp p_p [])) := hD
      obtain rfl := Option.some.inj h
      have hP9 := hP.sub (ws' := (bX8 a0 us ks o45 (bX6 a1 up kp p_p []))) [0, 1, 2, 3, 4, 5, 6, 7, 8, 9, 10, 11, 12] rfl
      have hD9 := hD.sub (ws' := (bX8 a0 us ks o45 (bX6 a1 up kp p_p []))) [0, 1, 2, 3, 4, 5, 6, 7, 8, 9, 10, 11, 12] (by decide) rfl
      have hK9 := hK.sub (tys' := []) [] rfl
      rw [hQQ]
      exact W.vret hx hb hr (fun t ht hW => ⟨⟨(), rfl, trivial, by rw [ht]; exact hP9, va_K.moved hW.alike hK9, hD9⟩, hS.F ht⟩) hS.2.2 dX8_fill_48
