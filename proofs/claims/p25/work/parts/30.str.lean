def PT (D : va_G) (B : Nat) (As : List Value) (sz v : Nat) (w : List Int32) : Array Value → State → Prop := va_Pc As (fun U => U.heap.size = sz ∧ va_K D vwCl [] U ∧ NW U ∧ B ≤ sz ∧ SE B U ∧ w.length < 2 ^ 31 ∧ va_T .byte v w.length (fun j => .int (w.getD j 0)) (fun x => B ≤ x) U U.heap)
theorem PT_blind {D : va_G} {B : Nat} {As : List Value} {sz v : Nat} {w : List Int32} : FrameBlind (PT D B As sz v w) := fun a U g mk q => by
  obtain ⟨q0, q1, qK, qN, qB, qE, ql, qT⟩ := q
  exact ⟨q0, q1, va_K.moved (u := U) (U := U.calling g mk a) (Vm.Alike.refl U.vm) qK, NW.same (u := U) (U := U.calling g mk a) rfl qN, qB, SE.same (u := U) (U := U.calling g mk a) rfl rfl qE, ql, va_T.moved (u := U) (U := U.calling g mk a) (Vm.Alike.refl U.vm) qT⟩
theorem PST {s : State} {H : Heap} {D : va_G} {B v : Nat} {w : List Int32} {tys : List (ClassId × FieldType)} {A : Nat → Prop} {As : List Value} {locs : List Loc} (hK : va_K D vwCl tys s) (hN : NW s) (hS : va_S A s.heap H locs) (hB : RB B s A) (hE : SE B s) (xl : w.length < 2 ^ 31) (xT : va_T .byte v w.length (fun j => .int (w.getD j 0)) (fun x => B ≤ x) s s.heap) : PreS s H (PT D B As H.size v w) As :=
  ⟨PT_blind, fun U hU hW => ⟨rfl, by rw [hU], va_K.moved hW.alike (hK.sub (tys' := []) [] rfl), NW.warm hW hN, Nat.le_trans hB.2 hS.1, hE.move hW (RB_old hS hB hU), xl, (va_T.moved hW.alike xT).kept (RB_old hS hB hU)⟩⟩
noncomputable def zrJ0_coder_7d493_0 : List ZR := zc 0 true (.getstatic 38) 3 (zc 3 true (.ifCond .eq 10) 3 (zc 6 true (.aload_n 0) 1 (zc 7 true (.getfield 15) 3 (zc 10 true (.goto 4) 3 (zc 13 false (.nop) 1 (zc 14 true (.ireturn) 1 ([])))))))
theorem zrJ0_coder_7d493_0_ok : zck 0 ((zby cJ0_coder_7d493).drop 0) zrJ0_coder_7d493_0 = true := by decide +kernel
def vfJ0_coder : List Cond := .code yJ0_coder_7d493 cJ0_coder_7d493 1 (some .byte) :: ([.fieldLink RJ0 38 "java/lang/String" "COMPACT_STRINGS" "Z", .fieldLink RJ0 15 "java/lang/String" "coder" "B"])
theorem qfJ0_coder : Good vfJ0_coder := gd_dec (by decide +kernel)
set_option maxHeartbeats 2000000 in
set_option maxRecDepth 100000 in
theorem kfJ0_coder (l : Launch) (dC : Nat → ClassId) (dI : Nat → Nat → Nat) (q : Nat) (w : List Int32) (sz B : Nat) : Met l yJ0_coder_7d493 vfJ0_coder ({ frames := 0, cells := 0, slots := 0, locals := 0 }) (PF (dC, dI) B [.ref q] sz [] [] [(q, w)]) (va_Qi (S := Unit) (fun (r : Int32) _ => r = 0) (fun _ t => BC (dC, dI) (va_A [] sz) [] [] t) (va_A [] sz)) 0 0 (va_A [] sz) := by
  refine va_MetF (cc := cJ0_coder_7d493) (maxL := 1) (ret := (some .byte)) (by decide) rfl ?_
  intro p e s m args below meth c s₁ B0 hml hv
  obtain ⟨rfl, hsz, hP0, hK, hD0, hN, hBs, hE, hX⟩ := hv
  have hBA := PF_reg hD0 hBs
  have xq : S1 B q w s := hX (q, w) (List.mem_of_getElem? (i := 0) rfl)
  obtain ⟨xl, x1, x2, v, x3, x4⟩ := xq
  have hx := B0.exec
  have hb := B0.bytes
  have hr := B0.returns
  have hts := atoms_spec (ws := vfJ0_coder) B0.pre
  have hown : s.vm.findClass RJ0 = some m.cls := findClass_of_methodNamed B0.named
  subst hsz
  have hD : va_D (va_A [] s.heap.size) [] := ⟨fun i j p q hi => by simp at hi, fun k q hk => by simp at hk⟩
  generalize hAe : va_A [] s.heap.size = A at hBA hD ⊢
  have hA : ∀ q : Nat, s.heap.size ≤ q → A q := fun q h => by rw [← hAe]; exact Or.inr h
  have hS : va_S A s.heap s.heap [] := va_S.rf
  have hP : va_P (dC, dI) vwCl [] s.heap := fun k q hk => by simp at hk
  have hl := lv_entry ([.ref q]) (n := 1) (Nat.le_of_ble_eq_true rfl)
  rw [lg_entry_eq]
  generalize (lg_sl ([.ref q]) ++ List.replicate (1 - (lg_sl ([.ref q])).length) Slot.unset).toArray = ls at hl ⊢
  have hB : RB B s A := ⟨hBA, hBs⟩
  refine va_gets hx hb (hE.2.1.narrow hB.1) hS hown (hts (.fieldLink RJ0 38 "java/lang/String" "COMPACT_STRINGS" "Z") (List.mem_of_getElem? (i := 1) rfl)) (fun _ h9 => h9) (zat zrJ0_coder_7d493_0_ok 0 rfl) ?_
  refine lv_if_eq (tgt := 13) hx hb (zat zrJ0_coder_7d493_0_ok 1 rfl) (by decide) (fun c3 => absurd c3 (by decide)) (fun _ => ?_)
  refine lv_aload_n hx hb (zat zrJ0_coder_7d493_0_ok 2 rfl) rfl (lv_at hl 0 rfl) ?_
  refine vk_getf hx hb (x2.narrow hB.1) hS hown (hts (.fieldLink RJ0 15 "java/lang/String" "coder" "B") (List.mem_of_getElem? (i := 2) rfl)) (fun _ h9 => h9) (zat zrJ0_coder_7d493_0_ok 3 rfl) ?_
  refine lv_goto (tgt := 14) hx hb (zat zrJ0_coder_7d493_0_ok 4 rfl) (by decide) ?_
  exact W.zret (v := 0) hx hb hr rfl (fun t ht hW => ⟨⟨0, (), rfl, rfl, by rw [ht]; exact hP, va_K.moved hW.alike (hK.sub (tys' := []) [] rfl), hD⟩, hS.F ht⟩) hS.2.2 (zat zrJ0_coder_7d493_0_ok 6 rfl)
noncomputable def zrJ0_isLatin1_aae02_0 : List ZR := zc 0 true (.getstatic 38) 3 (zc 3 true (.ifCond .eq 14) 3 (zc 6 true (.aload_n 0) 1 (zc 7 true (.getfield 15) 3 (zc 10 true (.ifCond .ne 7) 3 (zc 13 true (.iconst 1) 1 (zc 14 true (.goto 4) 3 (zc 17 false (.nop) 1 (zc 18 true (.ireturn) 1 ([])))))))))
theorem zrJ0_isLatin1_aae02_0_ok : zck 0 ((zby cJ0_isLatin1_aae02).drop 0) zrJ0_isLatin1_aae02_0 = true := by decide +kernel
def vfJ0_isLatin1 : List Cond := .code yJ0_isLatin1_aae02 cJ0_isLatin1_aae02 1 (some .boolean) :: ([.fieldLink RJ0 38 "java/lang/String" "COMPACT_STRINGS" "Z", .fieldLink RJ0 15 "java/lang/String" "coder" "B"])
theorem qfJ0_isLatin1 : Good vfJ0_isLatin1 := gd_dec (by decide +kernel)
set_option maxHeartbeats 2000000 in
set_option maxRecDepth 100000 in
theorem kfJ0_isLatin1 (l : Launch) (dC : Nat → ClassId) (dI : Nat → Nat → Nat) (q : Nat) (w : List Int32) (sz B : Nat) : Met l yJ0_isLatin1_aae02 vfJ0_isLatin1 ({ frames := 0, cells := 0, slots := 0, locals := 0 }) (PF (dC, dI) B [.ref q] sz [] [] [(q, w)]) (va_Qi (S := Unit) (fun (r : Int32) _ => r = 1) (fun _ t => BC (dC, dI) (va_A [] sz) [] [] t) (va_A [] sz)) 0 0 (va_A [] sz) := by
  refine va_MetF (cc := cJ0_isLatin1_aae02) (maxL := 1) (ret := (some .boolean)) (by decide) rfl ?_
  intro p e s m args below meth c s₁ B0 hml hv
  obtain ⟨rfl, hsz, hP0, hK, hD0, hN, hBs, hE, hX⟩ := hv
  have hBA := PF_reg hD0 hBs
  have xq : S1 B q w s := hX (q, w) (List.mem_of_getElem? (i := 0) rfl)
  obtain ⟨xl, x1, x2, v, x3, x4⟩ := xq
  have hx := B0.exec
  have hb := B0.bytes
  have hr := B0.returns
  have hts := atoms_spec (ws := vfJ0_isLatin1) B0.pre
  have hown : s.vm.findClass RJ0 = some m.cls := findClass_of_methodNamed B0.named
  subst hsz
  have hD : va_D (va_A [] s.heap.size) [] := ⟨fun i j p q hi => by simp at hi, fun k q hk => by simp at hk⟩
  generalize hAe : va_A [] s.heap.size = A at hBA hD ⊢
  have hA : ∀ q : Nat, s.heap.size ≤ q → A q := fun q h => by rw [← hAe]; exact Or.inr h
  have hS : va_S A s.heap s.heap [] := va_S.rf
  have hP : va_P (dC, dI) vwCl [] s.heap := fun k q hk => by simp at hk
  have hl := lv_entry ([.ref q]) (n := 1) (Nat.le_of_ble_eq_true rfl)
  rw [lg_entry_eq]
  generalize (lg_sl ([.ref q]) ++ List.replicate (1 - (lg_sl ([.ref q])).length) Slot.unset).toArray = ls at hl ⊢
  have hB : RB B s A := ⟨hBA, hBs⟩
  refine va_gets hx hb (hE.2.1.narrow hB.1) hS hown (hts (.fieldLink RJ0 38 "java/lang/String" "COMPACT_STRINGS" "Z") (List.mem_of_getElem? (i := 1) rfl)) (fun _ h9 => h9) (zat zrJ0_isLatin1_aae02_0_ok 0 rfl) ?_
  refine lv_if_eq (tgt := 17) hx hb (zat zrJ0_isLatin1_aae02_0_ok 1 rfl) (by decide) (fun c3 => absurd c3 (by decide)) (fun _ => ?_)
  refine lv_aload_n hx hb (zat zrJ0_isLatin1_aae02_0_ok 2 rfl) rfl (lv_at hl 0 rfl) ?_
  refine vk_getf hx hb (x2.narrow hB.1) hS hown (hts (.fieldLink RJ0 15 "java/lang/String" "coder" "B") (List.mem_of_getElem? (i := 2) rfl)) (fun _ h9 => h9) (zat zrJ0_isLatin1_aae02_0_ok 3 rfl) ?_
  refine lv_if_ne (tgt := 17) hx hb (zat zrJ0_isLatin1_aae02_0_ok 4 rfl) (by decide) (fun c3 => absurd rfl c3) (fun _ => ?_)
  refine lv_iconst (v := 1) hx hb (zat zrJ0_isLatin1_aae02_0_ok 5 rfl) (by decide) ?_
  refine lv_goto (tgt := 18) hx hb (zat zrJ0_isLatin1_aae02_0_ok 6 rfl) (by decide) ?_
  exact W.zret (v := 1) hx hb hr rfl (fun t ht hW => ⟨⟨1, (), rfl, rfl, by rw [ht]; exact hP, va_K.moved hW.alike (hK.sub (tys' := []) [] rfl), hD⟩, hS.F ht⟩) hS.2.2 (zat zrJ0_isLatin1_aae02_0_ok 8 rfl)
noncomputable def zrJ0_length_8abf5_0 : List ZR := zc 0 true (.aload_n 0) 1 (zc 1 true (.getfield 9) 3 (zc 4 true (.arraylength) 1 (zc 5 true (.aload_n 0) 1 (zc 6 true (.invokevirtual 335) 3 (zc 9 true (.ishr) 1 (zc 10 true (.ireturn) 1 ([])))))))
theorem zrJ0_length_8abf5_0_ok : zck 0 ((zby cJ0_length_8abf5).drop 0) zrJ0_length_8abf5_0 = true := by decide +kernel
def vfJ0_length : List Cond := .code yJ0_length_8abf5 cJ0_length_8abf5 1 (some .int) :: ([.fieldLink RJ0 9 "java/lang/String" "value" "[B", .methodLink RJ0 335 yJ0_coder_7d493, .instanceMethod yJ0_coder_7d493, .selects RJ0 yJ0_coder_7d493 yJ0_coder_7d493, .initialized RJ0, .code yJ0_coder_7d493 cJ0_coder_7d493 1 (some .byte), .fieldLink RJ0 38 "java/lang/String" "COMPACT_STRINGS" "Z", .fieldLink RJ0 15 "java/lang/String" "coder" "B"])
set_option maxRecDepth 20000 in
theorem gfJ0_length_0 : GoodIn vfJ0_length (wsV RJ0 335 RJ0 yJ0_coder_7d493 vfJ0_coder) := goodIn_app (goodIn_r [.methodLink RJ0 335 yJ0_coder_7d493, .instanceMethod yJ0_coder_7d493, .selects RJ0 yJ0_coder_7d493 yJ0_coder_7d493, .initialized RJ0] [2, 3, 4, 5] (by decide +kernel) (by decide +kernel)) (goodIn_r (.code yJ0_coder_7d493 cJ0_coder_7d493 1 (some .byte) :: [.fieldLink RJ0 38 "java/lang/String" "COMPACT_STRINGS" "Z", .fieldLink RJ0 15 "java/lang/String" "coder" "B"]) [6, 7, 8] (by decide +kernel) (by decide +kernel) : GoodIn vfJ0_length (.code yJ0_coder_7d493 cJ0_coder_7d493 1 (some .byte) :: [.fieldLink RJ0 38 "java/lang/String" "COMPACT_STRINGS" "Z", .fieldLink RJ0 15 "java/lang/String" "coder" "B"]))
theorem qfJ0_length : Good vfJ0_length := gd_dec (by decide +kernel)
set_option maxHeartbeats 2000000 in
set_option maxRecDepth 100000 in
theorem kfJ0_length (l : Launch) (dC : Nat → ClassId) (dI : Nat → Nat → Nat) (q : Nat) (w : List Int32) (sz B : Nat) : Met l yJ0_length_8abf5 vfJ0_length ({ frames := 1, cells := 0, slots := 0, locals := 20 }) (PF (dC, dI) B [.ref q] sz [] [] [(q, w)]) (va_Qi (S := Unit) (fun (r : Int32) _ => r = nI w.length) (fun _ t => BC (dC, dI) (va_A [] sz) [] [] t) (va_A [] sz)) 0 0 (va_A [] sz) := by
  refine va_MetF (cc := cJ0_length_8abf5) (maxL := 1) (ret := (some .int)) (by decide) rfl ?_
  intro p e s m args below meth c s₁ B0 hml hv
  obtain ⟨rfl, hsz, hP0, hK, hD0, hN, hBs, hE, hX⟩ := hv
  have hBA := PF_reg hD0 hBs
  have xq : S1 B q w s := hX (q, w) (List.mem_of_getElem? (i := 0) rfl)
  obtain ⟨xl, x1, x2, v, x3, x4⟩ := xq
  have hx := B0.exec
  have hb := B0.bytes
  have hr := B0.returns
  have hts := atoms_spec (ws := vfJ0_length) B0.pre
  have hown : s.vm.findClass RJ0 = some m.cls := findClass_of_methodNamed B0.named
  subst hsz
  have hD : va_D (va_A [] s.heap.size) [] := ⟨fun i j p q hi => by simp at hi, fun k q hk => by simp at hk⟩
  generalize hAe : va_A [] s.heap.size = A at hBA hD ⊢
  have hA : ∀ q : Nat, s.heap.size ≤ q → A q := fun q h => by rw [← hAe]; exact Or.inr h
  have hS : va_S A s.heap s.heap [] := va_S.rf
  have hP : va_P (dC, dI) vwCl [] s.heap := fun k q hk => by simp at hk
  have hl := lv_entry ([.ref q]) (n := 1) (Nat.le_of_ble_eq_true rfl)
  rw [lg_entry_eq]
  generalize (lg_sl ([.ref q]) ++ List.replicate (1 - (lg_sl ([.ref q])).length) Slot.unset).toArray = ls at hl ⊢
  have hB : RB B s A := ⟨hBA, hBs⟩
  refine lv_aload_n hx hb (zat zrJ0_length_8abf5_0_ok 0 rfl) rfl (lv_at hl 0 rfl) ?_
  refine vk_getf hx hb (x3.narrow hB.1) hS hown (hts (.fieldLink RJ0 9 "java/lang/String" "value" "[B") (List.mem_of_getElem? (i := 1) rfl)) (fun _ h9 => h9) (zat zrJ0_length_8abf5_0_ok 1 rfl) ?_
  refine va_tlen hx hb (x4.narrow hB.1) hS rfl (zat zrJ0_length_8abf5_0_ok 2 rfl) ?_
  refine lv_aload_n hx hb (zat zrJ0_length_8abf5_0_ok 3 rfl) rfl (lv_at hl 0 rfl) ?_
  refine cl_i (D := (dC, dI)) (S := Unit) (w1 := fun _ => []) (tys1 := fun _ => []) (wc := []) (wr := []) (va_runV (As := []) (rest := [.int (Int32.ofNat w.length)]) ⟨hx, hb, hml, hown, hts⟩ (kfJ0_coder l dC dI q w s.heap.size B) (cwV 0 hts gfJ0_length_0 rfl rfl rfl (by decide +kernel) ⟨(Nat.le_of_ble_eq_true rfl), (Nat.le_of_ble_eq_true rfl)⟩) (PVS hK hN hS hB hE ⟨xl, x1, x2, v, x3, x4⟩) rfl rfl hl.1 rfl (lv_room (Nat.le_of_ble_eq_true rfl)) (zat zrJ0_length_8abf5_0_ok 4 rfl) ⟨(Nat.le_of_ble_eq_true rfl), (Nat.le_of_ble_eq_true rfl)⟩) hP hD hK hS hA [] [] rfl rfl (by decide) (by decide) (fun r6 _ H locs hw hP hD _ hS => ?_)
  obtain rfl := hw
  obtain ⟨hP, hD⟩ := pd_mk [] hP hD
  refine lv_ishr hx hb (zat zrJ0_length_8abf5_0_ok 5 rfl) ?_
  have e9 : Int32.ofNat w.length >>> ((0 : Int32) &&& 31) = nI w.length := by
    rw [show (0 : Int32) &&& 31 = 0 from by decide]
    have := pk_shrN (n := w.length) xl (0 : Int32) 0 (by decide)
    rw [Nat.pow_zero, Nat.div_one] at this
    exact this
  rw [e9]
  exact W.iret (v := nI w.length) hx hb hr (fun t ht hW => ⟨⟨nI w.length, (), rfl, rfl, by rw [ht]; exact hP, va_K.moved hW.alike (hK.sub (tys' := []) [] rfl), hD⟩, hS.F ht⟩) hS.2.2 (zat zrJ0_length_8abf5_0_ok 6 rfl)
noncomputable def zrJ3_checkIndex_8e157_0 : List ZR := zc 0 true (.iload_n 0) 1 (zc 1 true (.ifCond .lt 8) 3 (zc 4 true (.iload_n 0) 1 (zc 5 true (.iload_n 1) 1 (zc 6 true (.if_icmp .lt 10) 3 (zc 9 false (.nop) 7 (zc 16 true (.iload_n 0) 1 (zc 17 true (.ireturn) 1 ([]))))))))
theorem zrJ3_checkIndex_8e157_0_ok : zck 0 ((zby cJ3_checkIndex_8e157).drop 0) zrJ3_checkIndex_8e157_0 = true := by decide +kernel
def vfJ3_checkIndexN : List Cond := .code yJ3_checkIndex_8e157 cJ3_checkIndex_8e157 3 (some .int) :: ([])
theorem qfJ3_checkIndexN : Good vfJ3_checkIndexN := gd_dec (by decide +kernel)
set_option maxHeartbeats 2000000 in
set_option maxRecDepth 100000 in
theorem kfJ3_checkIndexN (l : Launch) (dC : Nat → ClassId) (dI : Nat → Nat → Nat) (i n : Int32) (sz B : Nat) (h1 : ¬ i < 0) (h2 : i < n) : Met l yJ3_checkIndex_8e157 vfJ3_checkIndexN ({ frames := 0, cells := 0, slots := 0, locals := 0 }) (PF (dC, dI) B [.int i, .int n, .null] sz [] [] []) (va_Qi (S := Unit) (fun (r : Int32) _ => r = i) (fun _ t => BC (dC, dI) (va_A [] sz) [] [] t) (va_A [] sz)) 0 0 (va_A [] sz) := by
  refine va_MetF (cc := cJ3_checkIndex_8e157) (maxL := 3) (ret := (some .int)) (by decide) rfl ?_
  intro p e s m args below meth c s₁ B0 hml hv
  obtain ⟨rfl, hsz, hP0, hK, hD0, hN, hBs, hE, hX⟩ := hv
  have hBA := PF_reg hD0 hBs
  have hx := B0.exec
  have hb := B0.bytes
  have hr := B0.returns
  have hts := atoms_spec (ws := vfJ3_checkIndexN) B0.pre
  have hown : s.vm.findClass RJ3 = some m.cls := findClass_of_methodNamed B0.named
  subst hsz
  have hD : va_D (va_A [] s.heap.size) [] := ⟨fun i j p q hi => by simp at hi, fun k q hk => by simp at hk⟩
  generalize hAe : va_A [] s.heap.size = A at hBA hD ⊢
  have hA : ∀ q : Nat, s.heap.size ≤ q → A q := fun q h => by rw [← hAe]; exact Or.inr h
  have hS : va_S A s.heap s.heap [] := va_S.rf
  have hP : va_P (dC, dI) vwCl [] s.heap := fun k q hk => by simp at hk
  have hl := lv_entry ([.int i, .int n, .null]) (n := 3) (Nat.le_of_ble_eq_true rfl)
  rw [lg_entry_eq]
  generalize (lg_sl ([.int i, .int n, .null]) ++ List.replicate (3 - (lg_sl ([.int i, .int n, .null])).length) Slot.unset).toArray = ls at hl ⊢
  have hB : RB B s A := ⟨hBA, hBs⟩
  refine lv_iload_n hx hb (zat zrJ3_checkIndex_8e157_0_ok 0 rfl) rfl (lv_at hl 0 rfl) ?_
  refine lv_if_lt (tgt := 9) hx hb (zat zrJ3_checkIndex_8e157_0_ok 1 rfl) (by decide) (fun c3 => absurd c3 h1) (fun _ => ?_)
  refine lv_iload_n hx hb (zat zrJ3_checkIndex_8e157_0_ok 2 rfl) rfl (lv_at hl 0 rfl) ?_
  refine lv_iload_n hx hb (zat zrJ3_checkIndex_8e157_0_ok 3 rfl) rfl (lv_at hl 1 rfl) ?_
  refine lv_icmp_lt (tgt := 16) hx hb (zat zrJ3_checkIndex_8e157_0_ok 4 rfl) (by decide) (fun _ => ?_) (fun c3 => absurd h2 c3)
  refine lv_iload_n hx hb (zat zrJ3_checkIndex_8e157_0_ok 6 rfl) rfl (lv_at hl 0 rfl) ?_
  exact W.iret (v := i) hx hb hr (fun t ht hW => ⟨⟨i, (), rfl, rfl, by rw [ht]; exact hP, va_K.moved hW.alike (hK.sub (tys' := []) [] rfl), hD⟩, hS.F ht⟩) hS.2.2 (zat zrJ3_checkIndex_8e157_0_ok 7 rfl)
def vfJ3_checkIndexR : List Cond := .code yJ3_checkIndex_8e157 cJ3_checkIndex_8e157 3 (some .int) :: ([])
theorem qfJ3_checkIndexR : Good vfJ3_checkIndexR := gd_dec (by decide +kernel)
set_option maxHeartbeats 2000000 in
set_option maxRecDepth 100000 in
theorem kfJ3_checkIndexR (l : Launch) (dC : Nat → ClassId) (dI : Nat → Nat → Nat) (i n : Int32) (t0 : Nat) (sz B : Nat) (h1 : ¬ i < 0) (h2 : i < n) : Met l yJ3_checkIndex_8e157 vfJ3_checkIndexR ({ frames := 0, cells := 0, slots := 0, locals := 0 }) (PF (dC, dI) B [.int i, .int n, .ref t0] sz [] [] []) (va_Qi (S := Unit) (fun (r : Int32) _ => r = i) (fun _ t => BC (dC, dI) (va_A [] sz) [] [] t) (va_A [] sz)) 0 0 (va_A [] sz) := by
  refine va_MetF (cc := cJ3_checkIndex_8e157) (maxL := 3) (ret := (some .int)) (by decide) rfl ?_
  intro p e s m args below meth c s₁ B0 hml hv
  obtain ⟨rfl, hsz, hP0, hK, hD0, hN, hBs, hE, hX⟩ := hv
  have hBA := PF_reg hD0 hBs
  have hx := B0.exec
  have hb := B0.bytes
  have hr := B0.returns
  have hts := atoms_spec (ws := vfJ3_checkIndexR) B0.pre
  have hown : s.vm.findClass RJ3 = some m.cls := findClass_of_methodNamed B0.named
  subst hsz
  have hD : va_D (va_A [] s.heap.size) [] := ⟨fun i j p q hi => by simp at hi, fun k q hk => by simp at hk⟩
  generalize hAe : va_A [] s.heap.size = A at hBA hD ⊢
  have hA : ∀ q : Nat, s.heap.size ≤ q → A q := fun q h => by rw [← hAe]; exact Or.inr h
  have hS : va_S A s.heap s.heap [] := va_S.rf
  have hP : va_P (dC, dI) vwCl [] s.heap := fun k q hk => by simp at hk
  have hl := lv_entry ([.int i, .int n, .ref t0]) (n := 3) (Nat.le_of_ble_eq_true rfl)
  rw [lg_entry_eq]
  generalize (lg_sl ([.int i, .int n, .ref t0]) ++ List.replicate (3 - (lg_sl ([.int i, .int n, .ref t0])).length) Slot.unset).toArray = ls at hl ⊢
  have hB : RB B s A := ⟨hBA, hBs⟩
  refine lv_iload_n hx hb (zat zrJ3_checkIndex_8e157_0_ok 0 rfl) rfl (lv_at hl 0 rfl) ?_
  refine lv_if_lt (tgt := 9) hx hb (zat zrJ3_checkIndex_8e157_0_ok 1 rfl) (by decide) (fun c3 => absurd c3 h1) (fun _ => ?_)
  refine lv_iload_n hx hb (zat zrJ3_checkIndex_8e157_0_ok 2 rfl) rfl (lv_at hl 0 rfl) ?_
  refine lv_iload_n hx hb (zat zrJ3_checkIndex_8e157_0_ok 3 rfl) rfl (lv_at hl 1 rfl) ?_
  refine lv_icmp_lt (tgt := 16) hx hb (zat zrJ3_checkIndex_8e157_0_ok 4 rfl) (by decide) (fun _ => ?_) (fun c3 => absurd h2 c3)
  refine lv_iload_n hx hb (zat zrJ3_checkIndex_8e157_0_ok 6 rfl) rfl (lv_at hl 0 rfl) ?_
  exact W.iret (v := i) hx hb hr (fun t ht hW => ⟨⟨i, (), rfl, rfl, by rw [ht]; exact hP, va_K.moved hW.alike (hK.sub (tys' := []) [] rfl), hD⟩, hS.F ht⟩) hS.2.2 (zat zrJ3_checkIndex_8e157_0_ok 7 rfl)
noncomputable def zrJ0_checkIndex_df160_0 : List ZR := zc 0 true (.iload_n 0) 1 (zc 1 true (.iload_n 1) 1 (zc 2 true (.getstatic 1053) 3 (zc 5 true (.invokestatic 1059) 3 (zc 8 true (.pop) 1 (zc 9 true (.return_) 1 ([]))))))
theorem zrJ0_checkIndex_df160_0_ok : zck 0 ((zby cJ0_checkIndex_df160).drop 0) zrJ0_checkIndex_df160_0 = true := by decide +kernel
def vfJ0_checkIndex : List Cond := .code yJ0_checkIndex_df160 cJ0_checkIndex_df160 2 none :: ([.fieldLink RJ0 1053 "jdk/internal/util/Preconditions" "SIOOBE_FORMATTER" "Ljava/util/function/BiFunction;", .methodLink RJ0 1059 yJ3_checkIndex_8e157, .static yJ3_checkIndex_8e157, .initialized RJ3, .code yJ3_checkIndex_8e157 cJ3_checkIndex_8e157 3 (some .int)])
set_option maxRecDepth 20000 in
theorem gfJ0_checkIndex_0 : GoodIn vfJ0_checkIndex (va_wsS RJ0 1059 yJ3_checkIndex_8e157 vfJ3_checkIndexN) := goodIn_app (goodIn_r [.methodLink RJ0 1059 yJ3_checkIndex_8e157, .static yJ3_checkIndex_8e157, .initialized RJ3] [2, 3, 4] (by decide +kernel) (by decide +kernel)) (goodIn_r (.code yJ3_checkIndex_8e157 cJ3_checkIndex_8e157 3 (some .int) :: []) [5] (by decide +kernel) (by decide +kernel) : GoodIn vfJ0_checkIndex (.code yJ3_checkIndex_8e157 cJ3_checkIndex_8e157 3 (some .int) :: []))
set_option maxRecDepth 20000 in
theorem gfJ0_checkIndex_1 : GoodIn vfJ0_checkIndex (va_wsS RJ0 1059 yJ3_checkIndex_8e157 vfJ3_checkIndexR) := goodIn_app (goodIn_r [.methodLink RJ0 1059 yJ3_checkIndex_8e157, .static yJ3_checkIndex_8e157, .initialized RJ3] [2, 3, 4] (by decide +kernel) (by decide +kernel)) (goodIn_r (.code yJ3_checkIndex_8e157 cJ3_checkIndex_8e157 3 (some .int) :: []) [5] (by decide +kernel) (by decide +kernel) : GoodIn vfJ0_checkIndex (.code yJ3_checkIndex_8e157 cJ3_checkIndex_8e157 3 (some .int) :: []))
theorem qfJ0_checkIndex : Good vfJ0_checkIndex := gd_dec (by decide +kernel)
set_option maxHeartbeats 2000000 in
set_option maxRecDepth 100000 in
theorem kfJ0_checkIndex (l : Launch) (dC : Nat → ClassId) (dI : Nat → Nat → Nat) (i n : Int32) (sz B : Nat) (h1 : ¬ i < 0) (h2 : i < n) : Met l yJ0_checkIndex_df160 vfJ0_checkIndex ({ frames := 1, cells := 0, slots := 0, locals := 22 }) (PF (dC, dI) B [.int i, .int n] sz [] [] []) (va_Qv (S := Unit) (fun _ => True) (fun _ t => BC (dC, dI) (va_A [] sz) [] [] t) (va_A [] sz)) 0 0 (va_A [] sz) := by
  refine va_MetF (cc := cJ0_checkIndex_df160) (maxL := 2) (ret := none) (by decide) rfl ?_
  intro p e s m args below meth c s₁ B0 hml hv
  obtain ⟨rfl, hsz, hP0, hK, hD0, hN, hBs, hE, hX⟩ := hv
  have hBA := PF_reg hD0 hBs
  have hx := B0.exec
  have hb := B0.bytes
  have hr := B0.returns
  have hts := atoms_spec (ws := vfJ0_checkIndex) B0.pre
  have hown : s.vm.findClass RJ0 = some m.cls := findClass_of_methodNamed B0.named
  subst hsz
  have hD : va_D (va_A [] s.heap.size) [] := ⟨fun i j p q hi => by simp at hi, fun k q hk => by simp at hk⟩
  generalize hAe : va_A [] s.heap.size = A at hBA hD ⊢
  have hA : ∀ q : Nat, s.heap.size ≤ q → A q := fun q h => by rw [← hAe]; exact Or.inr h
  have hS : va_S A s.heap s.heap [] := va_S.rf
  have hP : va_P (dC, dI) vwCl [] s.heap := fun k q hk => by simp at hk
  have hl := lv_entry ([.int i, .int n]) (n := 2) (Nat.le_of_ble_eq_true rfl)
  rw [lg_entry_eq]
  generalize (lg_sl ([.int i, .int n]) ++ List.replicate (2 - (lg_sl ([.int i, .int n])).length) Slot.unset).toArray = ls at hl ⊢
  have hB : RB B s A := ⟨hBA, hBs⟩
  refine lv_iload_n hx hb (zat zrJ0_checkIndex_df160_0_ok 0 rfl) rfl (lv_at hl 0 rfl) ?_
  refine lv_iload_n hx hb (zat zrJ0_checkIndex_df160_0_ok 1 rfl) rfl (lv_at hl 1 rfl) ?_
  rcases hE.2.2.narrow hB.1 with hz | ⟨t0, hz⟩
  · refine va_gets hx hb hz hS hown (hts (.fieldLink RJ0 1053 "jdk/internal/util/Preconditions" "SIOOBE_FORMATTER" "Ljava/util/function/BiFunction;") (List.mem_of_getElem? (i := 1) rfl)) (fun _ h9 => h9) (zat zrJ0_checkIndex_df160_0_ok 2 rfl) ?_
    refine cl_i (D := (dC, dI)) (S := Unit) (w1 := fun _ => []) (tys1 := fun _ => []) (wc := []) (wr := []) (va_runS (As := [.int i, .int n, .null]) (rest := []) ⟨hx, hb, hml, hown, hts⟩ (kfJ3_checkIndexN l dC dI i n s.heap.size B h1 h2) (va_cwS 3 hts gfJ0_checkIndex_0 rfl rfl rfl (by decide +kernel) ⟨(Nat.le_of_ble_eq_true rfl), (Nat.le_of_ble_eq_true rfl)⟩) (PSF hP (hK.sub (tys' := []) [] rfl) hD hN hS hB hE S1n) rfl rfl hl.1 rfl (lv_room (Nat.le_of_ble_eq_true rfl)) (zat zrJ0_checkIndex_df160_0_ok 3 rfl) ⟨(Nat.le_of_ble_eq_true rfl), (Nat.le_of_ble_eq_true rfl)⟩) hP hD hK hS hA [] [] rfl rfl (by decide) (by decide) (fun r5 _ H locs hw hP hD _ hS => ?_)
    obtain rfl := hw
    obtain ⟨hP, hD⟩ := pd_mk [] hP hD
    refine lv_pop hx hb (zat zrJ0_checkIndex_df160_0_ok 4 rfl) rfl ?_
    exact W.vret hx hb hr (fun t ht hW => ⟨⟨(), rfl, trivial, by rw [ht]; exact hP, va_K.moved hW.alike (hK.sub (tys' := []) [] rfl), hD⟩, hS.F ht⟩) hS.2.2 (zat zrJ0_checkIndex_df160_0_ok 5 rfl)
  · refine va_gets hx hb hz hS hown (hts (.fieldLink RJ0 1053 "jdk/internal/util/Preconditions" "SIOOBE_FORMATTER" "Ljava/util/function/BiFunction;") (List.mem_of_getElem? (i := 1) rfl)) (fun _ h9 => h9) (zat zrJ0_checkIndex_df160_0_ok 2 rfl) ?_
    refine cl_i (D := (dC, dI)) (S := Unit) (w1 := fun _ => []) (tys1 := fun _ => []) (wc := []) (wr := []) (va_runS (As := [.int i, .int n, .ref t0]) (rest := []) ⟨hx, hb, hml, hown, hts⟩ (kfJ3_checkIndexR l dC dI i n t0 s.heap.size B h1 h2) (va_cwS 3 hts gfJ0_checkIndex_1 rfl rfl rfl (by decide +kernel) ⟨(Nat.le_of_ble_eq_true rfl), (Nat.le_of_ble_eq_true rfl)⟩) (PSF hP (hK.sub (tys' := []) [] rfl) hD hN hS hB hE S1n) rfl rfl hl.1 rfl (lv_room (Nat.le_of_ble_eq_true rfl)) (zat zrJ0_checkIndex_df160_0_ok 3 rfl) ⟨(Nat.le_of_ble_eq_true rfl), (Nat.le_of_ble_eq_true rfl)⟩) hP hD hK hS hA [] [] rfl rfl (by decide) (by decide) (fun r5 _ H locs hw hP hD _ hS => ?_)
    obtain rfl := hw
    obtain ⟨hP, hD⟩ := pd_mk [] hP hD
    refine lv_pop hx hb (zat zrJ0_checkIndex_df160_0_ok 4 rfl) rfl ?_
    exact W.vret hx hb hr (fun t ht hW => ⟨⟨(), rfl, trivial, by rw [ht]; exact hP, va_K.moved hW.alike (hK.sub (tys' := []) [] rfl), hD⟩, hS.F ht⟩) hS.2.2 (zat zrJ0_checkIndex_df160_0_ok 5 rfl)
noncomputable def zrJ1_charAt_3b067_0 : List ZR := zc 0 true (.iload_n 1) 1 (zc 1 true (.aload_n 0) 1 (zc 2 true (.arraylength) 1 (zc 3 true (.invokestatic 9) 3 (zc 6 true (.aload_n 0) 1 (zc 7 true (.iload_n 1) 1 (zc 8 true (.baload) 1 (zc 9 true (.sipush 255) 3 (zc 12 true (.iand) 1 (zc 13 true (.i2c) 1 (zc 14 true (.ireturn) 1 ([])))))))))))
theorem zrJ1_charAt_3b067_0_ok : zck 0 ((zby cJ1_charAt_3b067).drop 0) zrJ1_charAt_3b067_0 = true := by decide +kernel
def vfJ1_charAt : List Cond := .code yJ1_charAt_3b067 cJ1_charAt_3b067 2 (some .char) :: ([.methodLink RJ1 9 yJ0_checkIndex_df160, .static yJ0_checkIndex_df160, .initialized RJ0, .code yJ0_checkIndex_df160 cJ0_checkIndex_df160 2 none, .fieldLink RJ0 1053 "jdk/internal/util/Preconditions" "SIOOBE_FORMATTER" "Ljava/util/function/BiFunction;", .methodLink RJ0 1059 yJ3_checkIndex_8e157, .static yJ3_checkIndex_8e157, .initialized RJ3, .code yJ3_checkIndex_8e157 cJ3_checkIndex_8e157 3 (some .int)])
set_option maxRecDepth 20000 in
theorem gfJ1_charAt_0 : GoodIn vfJ1_charAt (va_wsS RJ1 9 yJ0_checkIndex_df160 vfJ0_checkIndex) := goodIn_app (goodIn_r [.methodLink RJ1 9 yJ0_checkIndex_df160, .static yJ0_checkIndex_df160, .initialized RJ0] [1, 2, 3] (by decide +kernel) (by decide +kernel)) (goodIn_r (.code yJ0_checkIndex_df160 cJ0_checkIndex_df160 2 none :: [.fieldLink RJ0 1053 "jdk/internal/util/Preconditions" "SIOOBE_FORMATTER" "Ljava/util/function/BiFunction;", .methodLink RJ0 1059 yJ3_checkIndex_8e157, .static yJ3_checkIndex_8e157, .initialized RJ3, .code yJ3_checkIndex_8e157 cJ3_checkIndex_8e157 3 (some .int)]) [4, 5, 6, 7, 8, 9] (by decide +kernel) (by decide +kernel) : GoodIn vfJ1_charAt (.code yJ0_checkIndex_df160 cJ0_checkIndex_df160 2 none :: [.fieldLink RJ0 1053 "jdk/internal/util/Preconditions" "SIOOBE_FORMATTER" "Ljava/util/function/BiFunction;", .methodLink RJ0 1059 yJ3_checkIndex_8e157, .static yJ3_checkIndex_8e157, .initialized RJ3, .code yJ3_checkIndex_8e157 cJ3_checkIndex_8e157 3 (some .int)]))
theorem qfJ1_charAt : Good vfJ1_charAt := gd_dec (by decide +kernel)
set_option maxHeartbeats 2000000 in
set_option maxRecDepth 100000 in
theorem kfJ1_charAt (l : Launch) (dC : Nat → ClassId) (dI : Nat → Nat → Nat) (v : Nat) (w : List Int32) (i : Int32) (sz B : Nat) (hi : vp_in i w.length) : Met l yJ1_charAt_3b067 vfJ1_charAt ({ frames := 2, cells := 0, slots := 0, locals := 43 }) (PT (dC, dI) B [.ref v, .int i] sz v w) (va_Qi (S := Unit) (fun (r : Int32) _ => r = sch w i) (fun _ t => BC (dC, dI) (va_A [] sz) [] [] t) (va_A [] sz)) 0 0 (va_A [] sz) := by
  refine va_MetF (cc := cJ1_charAt_3b067) (maxL := 2) (ret := (some .char)) (by decide) rfl ?_
  intro p e s m args below meth c s₁ B0 hml hv
  obtain ⟨rfl, hsz, hK, hN, hBs, hE, xl, xT⟩ := hv
  have hBA : ∀ q, va_A [] sz q → B ≤ q := PF_reg ⟨fun i j p q hi => by simp at hi, fun k q hk => by simp at hk⟩ hBs
  have hx := B0.exec
  have hb := B0.bytes
  have hr := B0.returns
  have hts := atoms_spec (ws := vfJ1_charAt) B0.pre
  have hown : s.vm.findClass RJ1 = some m.cls := findClass_of_methodNamed B0.named
  subst hsz
  have hD : va_D (va_A [] s.heap.size) [] := ⟨fun i j p q hi => by simp at hi, fun k q hk => by simp at hk⟩
  generalize hAe : va_A [] s.heap.size = A at hBA hD ⊢
  have hA : ∀ q : Nat, s.heap.size ≤ q → A q := fun q h => by rw [← hAe]; exact Or.inr h
  have hS : va_S A s.heap s.heap [] := va_S.rf
  have hP : va_P (dC, dI) vwCl [] s.heap := fun k q hk => by simp at hk
  have hl := lv_entry ([.ref v, .int i]) (n := 2) (Nat.le_of_ble_eq_true rfl)
  rw [lg_entry_eq]
  generalize (lg_sl ([.ref v, .int i]) ++ List.replicate (2 - (lg_sl ([.ref v, .int i])).length) Slot.unset).toArray = ls at hl ⊢
  have hB : RB B s A := ⟨hBA, hBs⟩
  have h1 : ¬ i < 0 := fun z => hi (Or.inl z)
  have h2 : i < nI w.length := by
    obtain ⟨j, hj, rfl⟩ := vp_in_of hi xl
    exact nI_lt hj xl
  refine lv_iload_n hx hb (zat zrJ1_charAt_3b067_0_ok 0 rfl) rfl (lv_at hl 1 rfl) ?_
  refine lv_aload_n hx hb (zat zrJ1_charAt_3b067_0_ok 1 rfl) rfl (lv_at hl 0 rfl) ?_
  refine va_tlen hx hb (xT.narrow hB.1) hS (v := nI w.length) rfl (zat zrJ1_charAt_3b067_0_ok 2 rfl) ?_
  refine cl_v (D := (dC, dI)) (S := Unit) (w1 := fun _ => []) (tys1 := fun _ => []) (wc := []) (wr := []) (va_runS (As := [.int i, .int (nI w.length)]) (rest := []) ⟨hx, hb, hml, hown, hts⟩ (kfJ0_checkIndex l dC dI i (nI w.length) s.heap.size B h1 h2) (va_cwS 2 hts gfJ1_charAt_0 rfl rfl rfl (by decide +kernel) ⟨(Nat.le_of_ble_eq_true rfl), (Nat.le_of_ble_eq_true rfl)⟩) (PSF hP (hK.sub (tys' := []) [] rfl) hD hN hS hB hE S1n) rfl rfl hl.1 rfl (lv_room (Nat.le_of_ble_eq_true rfl)) (zat zrJ1_charAt_3b067_0_ok 3 rfl) ⟨(Nat.le_of_ble_eq_true rfl), (Nat.le_of_ble_eq_true rfl)⟩) hP hD hK hS hA [] [] rfl rfl (by decide) (by decide) (fun _ H locs hw hP hD _ hS => ?_)
  obtain ⟨hP, hD⟩ := pd_mk [] hP hD
  refine lv_aload_n hx hb (zat zrJ1_charAt_3b067_0_ok 4 rfl) rfl (lv_at hl 0 rfl) ?_
  refine lv_iload_n hx hb (zat zrJ1_charAt_3b067_0_ok 5 rfl) rfl (lv_at hl 1 rfl) ?_
  refine va_tb hx hb (xT.narrow hB.1) hS hi rfl (zat zrJ1_charAt_3b067_0_ok 6 rfl) ?_
  refine lv_sipush (v := 255) hx hb (zat zrJ1_charAt_3b067_0_ok 7 rfl) (by decide) ?_
  refine lv_iand hx hb (zat zrJ1_charAt_3b067_0_ok 8 rfl) ?_
  refine lv_i2c hx hb (zat zrJ1_charAt_3b067_0_ok 9 rfl) (v := sch w i) rfl ?_
  exact W.zret (v := sch w i) hx hb hr (pk_nc _) (fun t ht hW => ⟨⟨sch w i, (), rfl, rfl, by rw [ht]; exact hP, va_K.moved hW.alike (hK.sub (tys' := []) [] rfl), hD⟩, hS.F ht⟩) hS.2.2 (zat zrJ1_charAt_3b067_0_ok 10 rfl)
noncomputable def zrJ0_charAt_5068e_0 : List ZR := zc 0 true (.aload_n 0) 1 (zc 1 true (.invokevirtual 492) 3 (zc 4 true (.ifCond .eq 12) 3 (zc 7 true (.aload_n 0) 1 (zc 8 true (.getfield 9) 3 (zc 11 true (.iload_n 1) 1 (zc 12 true (.invokestatic 495) 3 (zc 15 true (.ireturn) 1 ([]))))))))
theorem zrJ0_charAt_5068e_0_ok : zck 0 ((zby cJ0_charAt_5068e).drop 0) zrJ0_charAt_5068e_0 = true := by decide +kernel
def vfJ0_charAt : List Cond := .code yJ0_charAt_5068e cJ0_charAt_5068e 2 (some .char) :: ([.fieldLink RJ0 9 "java/lang/String" "value" "[B", .methodLink RJ0 492 yJ0_isLatin1_aae02, .instanceMethod yJ0_isLatin1_aae02, .selects RJ0 yJ0_isLatin1_aae02 yJ0_isLatin1_aae02, .initialized RJ0, .code yJ0_isLatin1_aae02 cJ0_isLatin1_aae02 1 (some .boolean), .fieldLink RJ0 38 "java/lang/String" "COMPACT_STRINGS" "Z", .fieldLink RJ0 15 "java/lang/String" "coder" "B", .methodLink RJ0 495 yJ1_charAt_3b067, .static yJ1_charAt_3b067, .initialized RJ1, .code yJ1_charAt_3b067 cJ1_charAt_3b067 2 (some .char), .methodLink RJ1 9 yJ0_checkIndex_df160, .static yJ0_checkIndex_df160, .code yJ0_checkIndex_df160 cJ0_checkIndex_df160 2 none, .fieldLink RJ0 1053 "jdk/internal/util/Preconditions" "SIOOBE_FORMATTER" "Ljava/util/function/BiFunction;", .methodLink RJ0 1059 yJ3_checkIndex_8e157, .static yJ3_checkIndex_8e157, .initialized RJ3, .code yJ3_checkIndex_8e157 cJ3_checkIndex_8e157 3 (some .int)])
set_option maxRecDepth 20000 in
theorem gfJ0_charAt_0 : GoodIn vfJ0_charAt (wsV RJ0 492 RJ0 yJ0_isLatin1_aae02 vfJ0_isLatin1) := goodIn_app (goodIn_r [.methodLink RJ0 492 yJ0_isLatin1_aae02, .instanceMethod yJ0_isLatin1_aae02, .selects RJ0 yJ0_isLatin1_aae02 yJ0_isLatin1_aae02, .initialized RJ0] [2, 3, 4, 5] (by decide +kernel) (by decide +kernel)) (goodIn_r (.code yJ0_isLatin1_aae02 cJ0_isLatin1_aae02 1 (some .boolean) :: [.fieldLink RJ0 38 "java/lang/String" "COMPACT_STRINGS" "Z", .fieldLink RJ0 15 "java/lang/String" "coder" "B"]) [6, 7, 8] (by decide +kernel) (by decide +kernel) : GoodIn vfJ0_charAt (.code yJ0_isLatin1_aae02 cJ0_isLatin1_aae02 1 (some .boolean) :: [.fieldLink RJ0 38 "java/lang/String" "COMPACT_STRINGS" "Z", .fieldLink RJ0 15 "java/lang/String" "coder" "B"]))
set_option maxRecDepth 20000 in
theorem gfJ0_charAt_1 : GoodIn vfJ0_charAt (va_wsS RJ0 495 yJ1_charAt_3b067 vfJ1_charAt) := goodIn_app (goodIn_r [.methodLink RJ0 495 yJ1_charAt_3b067, .static yJ1_charAt_3b067, .initialized RJ1] [9, 10, 11] (by decide +kernel) (by decide +kernel)) (goodIn_r (.code yJ1_charAt_3b067 cJ1_charAt_3b067 2 (some .char) :: [.methodLink RJ1 9 yJ0_checkIndex_df160, .static yJ0_checkIndex_df160, .initialized RJ0, .code yJ0_checkIndex_df160 cJ0_checkIndex_df160 2 none, .fieldLink RJ0 1053 "jdk/internal/util/Preconditions" "SIOOBE_FORMATTER" "Ljava/util/function/BiFunction;", .methodLink RJ0 1059 yJ3_checkIndex_8e157, .static yJ3_checkIndex_8e157, .initialized RJ3, .code yJ3_checkIndex_8e157 cJ3_checkIndex_8e157 3 (some .int)]) [12, 13, 14, 5, 15, 16, 17, 18, 19, 20] (by decide +kernel) (by decide +kernel) : GoodIn vfJ0_charAt (.code yJ1_charAt_3b067 cJ1_charAt_3b067 2 (some .char) :: [.methodLink RJ1 9 yJ0_checkIndex_df160, .static yJ0_checkIndex_df160, .initialized RJ0, .code yJ0_checkIndex_df160 cJ0_checkIndex_df160 2 none, .fieldLink RJ0 1053 "jdk/internal/util/Preconditions" "SIOOBE_FORMATTER" "Ljava/util/function/BiFunction;", .methodLink RJ0 1059 yJ3_checkIndex_8e157, .static yJ3_checkIndex_8e157, .initialized RJ3, .code yJ3_checkIndex_8e157 cJ3_checkIndex_8e157 3 (some .int)]))
theorem qfJ0_charAt : Good vfJ0_charAt := gd_dec (by decide +kernel)
set_option maxHeartbeats 2000000 in
set_option maxRecDepth 100000 in
theorem kfJ0_charAt (l : Launch) (dC : Nat → ClassId) (dI : Nat → Nat → Nat) (q : Nat) (w : List Int32) (i : Int32) (sz B : Nat) (hi : vp_in i w.length) : Met l yJ0_charAt_5068e vfJ0_charAt ({ frames := 3, cells := 0, slots := 0, locals := 64 }) (PF (dC, dI) B [.ref q, .int i] sz [] [] [(q, w)]) (va_Qi (S := Unit) (fun (r : Int32) _ => r = sch w i) (fun _ t => BC (dC, dI) (va_A [] sz) [] [] t) (va_A [] sz)) 0 0 (va_A [] sz) := by
  refine va_MetF (cc := cJ0_charAt_5068e) (maxL := 2) (ret := (some .char)) (by decide) rfl ?_
  intro p e s m args below meth c s₁ B0 hml hv
  obtain ⟨rfl, hsz, hP0, hK, hD0, hN, hBs, hE, hX⟩ := hv
  have hBA := PF_reg hD0 hBs
  have xq : S1 B q w s := hX (q, w) (List.mem_of_getElem? (i := 0) rfl)
  obtain ⟨xl, x1, x2, v, x3, x4⟩ := xq
  have hx := B0.exec
  have hb := B0.bytes
  have hr := B0.returns
  have hts := atoms_spec (ws := vfJ0_charAt) B0.pre
  have hown : s.vm.findClass RJ0 = some m.cls := findClass_of_methodNamed B0.named
  subst hsz
  have hD : va_D (va_A [] s.heap.size) [] := ⟨fun i j p q hi => by simp at hi, fun k q hk => by simp at hk⟩
  generalize hAe : va_A [] s.heap.size = A at hBA hD ⊢
  have hA : ∀ q : Nat, s.heap.size ≤ q → A q := fun q h => by rw [← hAe]; exact Or.inr h
  have hS : va_S A s.heap s.heap [] := va_S.rf
  have hP : va_P (dC, dI) vwCl [] s.heap := fun k q hk => by simp at hk
  have hl := lv_entry ([.ref q, .int i]) (n := 2) (Nat.le_of_ble_eq_true rfl)
  rw [lg_entry_eq]
  generalize (lg_sl ([.ref q, .int i]) ++ List.replicate (2 - (lg_sl ([.ref q, .int i])).length) Slot.unset).toArray = ls at hl ⊢
  have hB : RB B s A := ⟨hBA, hBs⟩
  refine lv_aload_n hx hb (zat zrJ0_charAt_5068e_0_ok 0 rfl) rfl (lv_at hl 0 rfl) ?_
  refine cl_i (D := (dC, dI)) (S := Unit) (w1 := fun _ => []) (tys1 := fun _ => []) (wc := []) (wr := []) (va_runV (As := []) (rest := []) ⟨hx, hb, hml, hown, hts⟩ (kfJ0_isLatin1 l dC dI q w s.heap.size B) (cwV 0 hts gfJ0_charAt_0 rfl rfl rfl (by decide +kernel) ⟨(Nat.le_of_ble_eq_true rfl), (Nat.le_of_ble_eq_true rfl)⟩) (PVS hK hN hS hB hE ⟨xl, x1, x2, v, x3, x4⟩) rfl rfl hl.1 rfl (lv_room (Nat.le_of_ble_eq_true rfl)) (zat zrJ0_charAt_5068e_0_ok 1 rfl) ⟨(Nat.le_of_ble_eq_true rfl), (Nat.le_of_ble_eq_true rfl)⟩) hP hD hK hS hA [] [] rfl rfl (by decide) (by decide) (fun r1 _ H locs hw hP hD _ hS => ?_)
  obtain rfl := hw
  obtain ⟨hP, hD⟩ := pd_mk [] hP hD
  refine lv_if_eq (tgt := 16) hx hb (zat zrJ0_charAt_5068e_0_ok 2 rfl) (by decide) (fun c3 => absurd c3 (by decide)) (fun _ => ?_)
  refine lv_aload_n hx hb (zat zrJ0_charAt_5068e_0_ok 3 rfl) rfl (lv_at hl 0 rfl) ?_
  refine vk_getf hx hb (x3.narrow hB.1) hS hown (hts (.fieldLink RJ0 9 "java/lang/String" "value" "[B") (List.mem_of_getElem? (i := 1) rfl)) (fun _ h9 => h9) (zat zrJ0_charAt_5068e_0_ok 4 rfl) ?_
  refine lv_iload_n hx hb (zat zrJ0_charAt_5068e_0_ok 5 rfl) rfl (lv_at hl 1 rfl) ?_
  refine cl_i (D := (dC, dI)) (S := Unit) (w1 := fun _ => []) (tys1 := fun _ => []) (wc := []) (wr := []) (va_runS (As := [.ref v, .int i]) (rest := []) ⟨hx, hb, hml, hown, hts⟩ (kfJ1_charAt l dC dI v w i H.size B hi) (va_cwS 2 hts gfJ0_charAt_1 rfl rfl rfl (by decide +kernel) ⟨(Nat.le_of_ble_eq_true rfl), (Nat.le_of_ble_eq_true rfl)⟩) (PST hK hN hS hB hE xl x4) rfl rfl hl.1 rfl (lv_room (Nat.le_of_ble_eq_true rfl)) (zat zrJ0_charAt_5068e_0_ok 6 rfl) ⟨(Nat.le_of_ble_eq_true rfl), (Nat.le_of_ble_eq_true rfl)⟩) hP hD hK hS hA [] [] rfl rfl (by decide) (by decide) (fun r12 _ H locs hw hP hD _ hS => ?_)
  obtain rfl := hw
  obtain ⟨hP, hD⟩ := pd_mk [] hP hD
  exact W.zret (v := sch w i) hx hb hr (pk_nc _) (fun t ht hW => ⟨⟨sch w i, (), rfl, rfl, by rw [ht]; exact hP, va_K.moved hW.alike (hK.sub (tys' := []) [] rfl), hD⟩, hS.F ht⟩) hS.2.2 (zat zrJ0_charAt_5068e_0_ok 7 rfl)
