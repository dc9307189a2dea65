theorem dX9_gain_0 : decode cX9_gain 0 = .ok (.iload_n 1, 1) := by decide +kernel
theorem dX9_gain_1 : decode cX9_gain 1 = .ok (.iload_n 2, 1) := by decide +kernel
theorem dX9_gain_10 : decode cX9_gain 10 = .ok (.iload_n 0, 1) := by decide +kernel
theorem dX9_gain_11 : decode cX9_gain 11 = .ok (.iload_n 1, 1) := by decide +kernel
theorem dX9_gain_12 : decode cX9_gain 12 = .ok (.imul, 1) := by decide +kernel
theorem dX9_gain_13 : decode cX9_gain 13 = .ok (.iload_n 3, 1) := by decide +kernel
theorem dX9_gain_14 : decode cX9_gain 14 = .ok (.idiv, 1) := by decide +kernel
theorem dX9_gain_15 : decode cX9_gain 15 = .ok (.iconst 2, 1) := by decide +kernel
theorem dX9_gain_16 : decode cX9_gain 16 = .ok (.iload_n 1, 1) := by decide +kernel
theorem dX9_gain_17 : decode cX9_gain 17 = .ok (.imul, 1) := by decide +kernel
theorem dX9_gain_18 : decode cX9_gain 18 = .ok (.isub, 1) := by decide +kernel
theorem dX9_gain_19 : decode cX9_gain 19 = .ok (.ireturn, 1) := by decide +kernel
theorem dX9_gain_2 : decode cX9_gain 2 = .ok (.iadd, 1) := by decide +kernel
theorem dX9_gain_3 : decode cX9_gain 3 = .ok (.istore_n 3, 1) := by decide +kernel
theorem dX9_gain_4 : decode cX9_gain 4 = .ok (.iload_n 3, 1) := by decide +kernel
theorem dX9_gain_5 : decode cX9_gain 5 = .ok (.ifCond .ne 5, 3) := by decide +kernel
theorem dX9_gain_8 : decode cX9_gain 8 = .ok (.iconst 0, 1) := by decide +kernel
theorem dX9_gain_9 : decode cX9_gain 9 = .ok (.ireturn, 1) := by decide +kernel
def vX9_gain : List Cond := .code yX9_gain cX9_gain 4 (some .int) :: ([])
set_option maxHeartbeats 2000000 in
set_option maxRecDepth 100000 in
theorem kX9_gain (l : Launch) (dC : Nat → ClassId) (dI : Nat → Nat → Nat) (k0 : Int32) (k1 : Int32) (k2 : Int32) (hk0 : (0 ≤ k0.toInt ∧ k0.toInt ≤ 99)) (hk1 : (0 ≤ k1.toInt ∧ k1.toInt ≤ 9)) (hk2 : (0 ≤ k2.toInt ∧ k2.toInt ≤ 9)) (sz : Nat) : Met l yX9_gain vX9_gain ({ frames := 0, cells := 0, slots := 0, locals := 0 }) (PC (dC, dI) [.int k0, .int k1, .int k2] sz [] []) (va_Qi (S := Unit) (fun (r : Int32) _ => True) (fun _ t => BC (dC, dI) (va_A [] sz) [] [] t) (va_A [] sz)) 0 0 (va_A [] sz) := by
  refine Met.ofW (cc := cX9_gain) (maxL := 4) (ret := (some .int)) (by decide) rfl ?_
  intro p e s m args below meth c s₁ B hml hv
  obtain ⟨rfl, hsz, hP, hK, hD0, hN⟩ := hv
  have hx := B.exec
  have hb := B.bytes
  have hr := B.returns
  have hts := atoms_spec (ws := vX9_gain) B.pre
  have hown : s.vm.findClass RX9 = some m.cls := findClass_of_methodNamed B.named
  have hlocks := B.notSynchronized
  subst hsz
  have hD := hD0.self (sz := s.heap.size)
  generalize hAe : va_A [] s.heap.size = A at hD ⊢
  have hA : ∀ q : Nat, s.heap.size ≤ q → A q := fun q h => by rw [← hAe]; exact Or.inr h
  have hS : va_S A s.heap s.heap [] := va_S.rf
  have hP : va_P (dC, dI) vwCl [] s.heap := hP
  have hl := lv_entry ([.int k0, .int k1, .int k2]) (n := 4) (Nat.le_of_ble_eq_true rfl)
  rw [lg_entry_eq]
  generalize (lg_sl ([.int k0, .int k1, .int k2]) ++ List.replicate (4 - (lg_sl ([.int k0, .int k1, .int k2])).length) Slot.unset).toArray = ls at hl ⊢
  have hl : lv_has ls 4 [(0, .int k0), (1, .int k1), (2, .int k2)] := hl
  refine lv_iload_n hx hb dX9_gain_0 rfl (lv_at hl 1 rfl) ?_
  refine lv_iload_n hx hb dX9_gain_1 rfl (lv_at hl 2 rfl) ?_
  refine lv_iadd hx hb dX9_gain_2 ?_
  refine lv_topi (fun z1 ez1 => ?_)
  have tz1 : z1.toInt = k1.toInt + k2.toInt := by rw [ez1]; rw [iadd_t (by first | omega | (simp only [ltv_0]; omega)) (by first | omega | (simp only [ltv_0]; omega))]; first | done | (simp only [ltv_0])
  refine lv_istore_n (lv' := [(3, .int z1), (0, .int k0), (1, .int k1), (2, .int k2)]) hx hb dX9_gain_3 rfl hl (by decide) rfl (fun ls hl => ?_)
  refine lv_iload_n hx hb dX9_gain_4 rfl (lv_at hl 0 rfl) ?_
  refine lv_if_ne (tgt := 10) hx hb dX9_gain_5 (by decide) (fun c2 => ?_) (fun c2 => ?_)
  · simp only [fa_lt, fa_le, fa_eq, ltv_0] at c2
    refine lv_iload_n hx hb dX9_gain_10 rfl (lv_at hl 1 rfl) ?_
    refine lv_iload_n hx hb dX9_gain_11 rfl (lv_at hl 2 rfl) ?_
    refine lv_imul hx hb dX9_gain_12 ?_
    refine lv_topi (fun z3 ez3 => ?_)
    clear ez3
    refine lv_iload_n hx hb dX9_gain_13 rfl (lv_at hl 0 rfl) ?_
    refine lv_idiv hx hb dX9_gain_14 (by rw [fa_eq, ltv_0]; omega) ?_
    refine lv_topi (fun z4 ez4 => ?_)
    clear ez4
    refine lv_iconst (v := 2) hx hb dX9_gain_15 (by decide) ?_
    refine lv_iload_n hx hb dX9_gain_16 rfl (lv_at hl 2 rfl) ?_
    refine lv_imul hx hb dX9_gain_17 ?_
    refine lv_topi (fun z5 ez5 => ?_)
    have tz5 : z5.toInt = 2 * k1.toInt := by rw [ez5]; rw [imul_t (by first | omega | (simp only [ltv_0, ltv_2]; omega)) (by first | omega | (simp only [ltv_0, ltv_2]; omega))]; first | done | (simp only [ltv_0, ltv_2])
    refine lv_isub hx hb dX9_gain_18 ?_
    refine lv_topi (fun z6 ez6 => ?_)
    clear ez6
    have hP9 := hP.sub (ws' := []) [] rfl
    have hD9 := hD.sub (ws' := []) [] (by decide) rfl
    have hK9 := hK.sub (tys' := []) [] rfl
    exact W.iret (v := z6) hx hb hr (fun t ht hW => ⟨⟨z6, (), rfl, trivial, by rw [ht]; exact hP9, va_K.moved hW.alike hK9, hD9⟩, hS.F ht⟩) hS.2.2 dX9_gain_19
  · simp only [fa_lt, fa_le, fa_eq, ltv_0] at c2
    refine lv_iconst (v := 0) hx hb dX9_gain_8 (by decide) ?_
    have hP9 := hP.sub (ws' := []) [] rfl
    have hD9 := hD.sub (ws' := []) [] (by decide) rfl
    have hK9 := hK.sub (tys' := []) [] rfl
    exact W.iret (v := 0) hx hb hr (fun t ht hW => ⟨⟨0, (), rfl, trivial, by rw [ht]; exact hP9, va_K.moved hW.alike hK9, hD9⟩, hS.F ht⟩) hS.2.2 dX9_gain_9
theorem dX9_isBestAlone_0 : decode cX9_isBestAlone 0 = .ok (.iconst 0, 1) := by decide +kernel
theorem dX9_isBestAlone_1 : decode cX9_isBestAlone 1 = .ok (.istore_n 3, 1) := by decide +kernel
theorem dX9_isBestAlone_10 : decode cX9_isBestAlone 10 = .ok (.iload_n 2, 1) := by decide +kernel
theorem dX9_isBestAlone_11 : decode cX9_isBestAlone 11 = .ok (.invokestatic 15, 3) := by decide +kernel
theorem dX9_isBestAlone_14 : decode cX9_isBestAlone 14 = .ok (.iload_n 0, 1) := by decide +kernel
theorem dX9_isBestAlone_15 : decode cX9_isBestAlone 15 = .ok (.iload_n 1, 1) := by decide +kernel
theorem dX9_isBestAlone_16 : decode cX9_isBestAlone 16 = .ok (.iload_n 2, 1) := by decide +kernel
theorem dX9_isBestAlone_17 : decode cX9_isBestAlone 17 = .ok (.invokestatic 15, 3) := by decide +kernel
theorem dX9_isBestAlone_2 : decode cX9_isBestAlone 2 = .ok (.iload_n 3, 1) := by decide +kernel
theorem dX9_isBestAlone_20 : decode cX9_isBestAlone 20 = .ok (.if_icmp .le 5, 3) := by decide +kernel
theorem dX9_isBestAlone_23 : decode cX9_isBestAlone 23 = .ok (.iconst 0, 1) := by decide +kernel
theorem dX9_isBestAlone_24 : decode cX9_isBestAlone 24 = .ok (.ireturn, 1) := by decide +kernel
theorem dX9_isBestAlone_25 : decode cX9_isBestAlone 25 = .ok (.iinc 3 1, 3) := by decide +kernel
theorem dX9_isBestAlone_28 : decode cX9_isBestAlone 28 = .ok (.goto (-26), 3) := by decide +kernel
theorem dX9_isBestAlone_3 : decode cX9_isBestAlone 3 = .ok (.bipush 6, 2) := by decide +kernel
theorem dX9_isBestAlone_31 : decode cX9_isBestAlone 31 = .ok (.iconst 1, 1) := by decide +kernel
theorem dX9_isBestAlone_32 : decode cX9_isBestAlone 32 = .ok (.ireturn, 1) := by decide +kernel
theorem dX9_isBestAlone_5 : decode cX9_isBestAlone 5 = .ok (.if_icmp .gt 26, 3) := by decide +kernel
theorem dX9_isBestAlone_8 : decode cX9_isBestAlone 8 = .ok (.iload_n 0, 1) := by decide +kernel
theorem dX9_isBestAlone_9 : decode cX9_isBestAlone 9 = .ok (.iload_n 3, 1) := by decide +kernel
def vX9_isBestAlone : List Cond := .code yX9_isBestAlone cX9_isBestAlone 4 (some .boolean) :: ([.methodLink RX9 15 yX9_gain, .static yX9_gain, .initialized RX9, .code yX9_gain cX9_gain 4 (some .int)])
set_option maxRecDepth 20000 in
theorem gX9_isBestAlone_0 : GoodIn vX9_isBestAlone (va_wsS RX9 15 yX9_gain vX9_gain) := goodIn_app (goodIn_r [.methodLink RX9 15 yX9_gain, .static yX9_gain, .initialized RX9] [1, 2, 3] (by decide +kernel) (by decide +kernel)) (goodIn_r (.code yX9_gain cX9_gain 4 (some .int) :: []) [4] (by decide +kernel) (by decide +kernel) : GoodIn vX9_isBestAlone (.code yX9_gain cX9_gain 4 (some .int) :: []))
set_option maxHeartbeats 2000000 in
set_option maxRecDepth 100000 in
theorem kX9_isBestAlone (l : Launch) (dC : Nat → ClassId) (dI : Nat → Nat → Nat) (k0 : Int32) (k1 : Int32) (k2 : Int32) (hk0 : (0 ≤ k0.toInt ∧ k0.toInt ≤ 99)) (hk1 : (0 ≤ k1.toInt ∧ k1.toInt ≤ 9)) (hk2 : (0 ≤ k2.toInt ∧ k2.toInt ≤ 9)) (sz : Nat) : Met l yX9_isBestAlone vX9_isBestAlone ({ frames := 1, cells := 0, slots := 0, locals := 23 }) (PC (dC, dI) [.int k0, .int k1, .int k2] sz [] []) (va_Qi (S := Unit) (fun (r : Int32) _ => (0 ≤ r.toInt ∧ r.toInt ≤ 1)) (fun _ t => BC (dC, dI) (va_A [] sz) [] [] t) (va_A [] sz)) 0 0 (va_A [] sz) := by
  refine Met.ofW (cc := cX9_isBestAlone) (maxL := 4) (ret := (some .boolean)) (by decide) rfl ?_
  intro p e s m args below meth c s₁ B hml hv
  obtain ⟨rfl, hsz, hP, hK, hD0, hN⟩ := hv
  have hx := B.exec
  have hb := B.bytes
  have hr := B.returns
  have hts := atoms_spec (ws := vX9_isBestAlone) B.pre
  have hown : s.vm.findClass RX9 = some m.cls := findClass_of_methodNamed B.named
  have hlocks := B.notSynchronized
  subst hsz
  have hD := hD0.self (sz := s.heap.size)
  generalize hAe : va_A [] s.heap.size = A at hD ⊢
  have hA : ∀ q : Nat, s.heap.size ≤ q → A q := fun q h => by rw [← hAe]; exact Or.inr h
  have hS : va_S A s.heap s.heap [] := va_S.rf
  have hP : va_P (dC, dI) vwCl [] s.heap := hP
  have hl := lv_entry ([.int k0, .int k1, .int k2]) (n := 4) (Nat.le_of_ble_eq_true rfl)
  rw [lg_entry_eq]
  generalize (lg_sl ([.int k0, .int k1, .int k2]) ++ List.replicate (4 - (lg_sl ([.int k0, .int k1, .int k2])).length) Slot.unset).toArray = ls at hl ⊢
  have hl : lv_has ls 4 [(0, .int k0), (1, .int k1), (2, .int k2)] := hl
  refine lv_iconst (v := 0) hx hb dX9_isBestAlone_0 (by decide) ?_
  refine lv_istore_n (lv' := [(3, .int 0), (0, .int k0), (1, .int k1), (2, .int k2)]) hx hb dX9_isBestAlone_1 rfl hl (by decide) rfl (fun ls hl => ?_)
  have L2_41 : ∀ (n : Nat) (z40 : Int32) (H : Heap) (locs : List Loc) (ls : Array Slot), (0 ≤ z40.toInt ∧ z40.toInt ≤ 7) → 7 - z40.toInt < (n : Int) → va_P (dC, dI) vwCl [] H → va_D A [] → va_S A s.heap H locs → lv_has ls 4 [(3, .int z40), (0, .int k0), (1, .int k1), (2, .int k2)] → W p l e (headSpec vX9_isBestAlone { frames := 1, cells := 0, slots := 0, locals := 23 }).room s m ([.int k0, .int k1, .int k2]).toArray below meth c H locs 0 0 (MQ below (va_Qi (S := Unit) (fun (r : Int32) _ => (0 ≤ r.toInt ∧ r.toInt ≤ 1)) (fun _ t => BC (dC, dI) A [] [] t) A) ([.int k0, .int k1, .int k2]).toArray s 0 0 A) (F0 m 2 ls []) := by
    intro n
    induction n with
    | zero =>
      intro z40 H locs ls b2_0 hm _ _ _ _
      exact absurd hm (by omega)
    | succ n ih2 =>
      intro z40 H locs ls b2_0 hm2 hP hD hS hl
      refine lv_iload_n hx hb dX9_isBestAlone_2 rfl (lv_at hl 0 rfl) ?_
      refine lv_bipush (v := 6) hx hb dX9_isBestAlone_3 (by decide) ?_
      refine lv_icmp_gt (tgt := 31) hx hb dX9_isBestAlone_5 (by decide) (fun c42 => ?_) (fun c42 => ?_)
      · simp only [fa_lt, fa_le, fa_eq, ltv_0, ltv_6] at c42
        refine lv_iconst (v := 1) hx hb dX9_isBestAlone_31 (by decide) ?_
        have hP9 := hP.sub (ws' := []) [] rfl
        have hD9 := hD.sub (ws' := []) [] (by decide) rfl
        have hK9 := hK.sub (tys' := []) [] rfl
        exact W.zret (v := 1) hx hb hr rfl (fun t ht hW => ⟨⟨1, (), rfl, (by first | trivial | omega | (simp only [ltv_0, ltv_1]; omega)), by rw [ht]; exact hP9, va_K.moved hW.alike hK9, hD9⟩, hS.F ht⟩) hS.2.2 dX9_isBestAlone_32
      · simp only [fa_lt, fa_le, fa_eq, ltv_0, ltv_6] at c42
        refine lv_iload_n hx hb dX9_isBestAlone_8 rfl (lv_at hl 1 rfl) ?_
        refine lv_iload_n hx hb dX9_isBestAlone_9 rfl (lv_at hl 0 rfl) ?_
        refine lv_iload_n hx hb dX9_isBestAlone_10 rfl (lv_at hl 3 rfl) ?_
        refine cl_i (wc := []) (wr := []) (va_runS (As := [.int k0, .int z40, .int k2]) (rest := []) ⟨hx, hb, hml, hown, hts⟩ (kX9_gain l dC dI k0 z40 k2 (by first | omega | (simp only [ltv_0]; omega)) (by first | omega | (simp only [ltv_0]; omega)) (by first | omega | (simp only [ltv_0]; omega)) H.size) (va_cwS 3 hts gX9_isBestAlone_0 rfl rfl rfl (by decide +kernel) ⟨Nat.le_of_ble_eq_true rfl, Nat.le_of_ble_eq_true rfl⟩) (PS (hP.sub (ws' := []) [] rfl) (hK.sub (tys' := []) [] rfl) (hD.sub (ws' := []) [] (by decide) rfl) hN) rfl rfl hl.1 rfl (lv_room (Nat.le_of_ble_eq_true rfl)) dX9_isBestAlone_11 ⟨Nat.le_of_ble_eq_true rfl, Nat.le_of_ble_eq_true rfl⟩) hP hD hK hS hA [] [] rfl rfl (by decide) (by decide) (fun z43 _u H locs hw hP hD hK hS => ?_)
        have b44 := hw
        have hP : va_P (dC, dI) vwCl [] H := hP
        have hD : va_D A [] := hD
        have hK : va_K (dC, dI) vwCl [] s := hK
        refine lv_iload_n hx hb dX9_isBestAlone_14 rfl (lv_at hl 1 rfl) ?_
        refine lv_iload_n hx hb dX9_isBestAlone_15 rfl (lv_at hl 2 rfl) ?_
        refine lv_iload_n hx hb dX9_isBestAlone_16 rfl (lv_at hl 3 rfl) ?_
        refine cl_i (wc := []) (wr := []) (va_runS (As := [.int k0, .int k1, .int k2]) (rest := [.int z43]) ⟨hx, hb, hml, hown, hts⟩ (kX9_gain l dC dI k0 k1 k2 (by first | omega | (simp only [ltv_0]; omega)) (by first | omega | (simp only [ltv_0]; omega)) (by first | omega | (simp only [ltv_0]; omega)) H.size) (va_cwS 3 hts gX9_isBestAlone_0 rfl rfl rfl (by decide +kernel) ⟨Nat.le_of_ble_eq_true rfl, Nat.le_of_ble_eq_true rfl⟩) (PS (hP.sub (ws' := []) [] rfl) (hK.sub (tys' := []) [] rfl) (hD.sub (ws' := []) [] (by decide) rfl) hN) rfl rfl hl.1 rfl (lv_room (Nat.le_of_ble_eq_true rfl)) dX9_isBestAlone_17 ⟨Nat.le_of_ble_eq_true rfl, Nat.le_of_ble_eq_true rfl⟩) hP hD hK hS hA [] [] rfl rfl (by decide) (by decide) (fun z45 _u H locs hw hP hD hK hS => ?_)
        have b46 := hw
        have hP : va_P (dC, dI) vwCl [] H := hP
        have hD : va_D A [] := hD
        have hK : va_K (dC, dI) vwCl [] s := hK
        refine lv_icmp_le (tgt := 25) hx hb dX9_isBestAlone_20 (by decide) (fun c47 => ?_) (fun c47 => ?_)
        · simp only [fa_lt, fa_le, fa_eq, ltv_0] at c47
          obtain ⟨z48, ez48⟩ : ∃ y : Int32, y = z40 + 1 := ⟨_, rfl⟩
          have tz48 : z48.toInt = z40.toInt + 1 := by rw [ez48, iadd_t (by simp only [ltv_1]; omega) (by simp only [ltv_1]; omega)]; simp only [ltv_1]
          refine lv_iinc (v := z48) (lv' := [(3, .int z48), (0, .int k0), (1, .int k1), (2, .int k2)]) hx hb dX9_isBestAlone_25 hl (k := 0) rfl (by rw [ez48]; rfl) (by decide) rfl (fun ls hl => ?_)
          refine lv_goto (tgt := 2) hx hb dX9_isBestAlone_28 (by decide) ?_
          exact ih2 z48 H locs ls (by first | omega | (simp only [ltv_0]; omega)) (by first | omega | (simp only [ltv_0]; omega)) hP hD hS (lv_sub hl [0, 1, 2, 3] rfl)
        · simp only [fa_lt, fa_le, fa_eq, ltv_0] at c47
          refine lv_iconst (v := 0) hx hb dX9_isBestAlone_23 (by decide) ?_
          have hP9 := hP.sub (ws' := []) [] rfl
          have hD9 := hD.sub (ws' := []) [] (by decide) rfl
          have hK9 := hK.sub (tys' := []) [] rfl
          exact W.zret (v := 0) hx hb hr rfl (fun t ht hW => ⟨⟨0, (), rfl, (by first | trivial | omega | (simp only [ltv_0]; omega)), by rw [ht]; exact hP9, va_K.moved hW.alike hK9, hD9⟩, hS.F ht⟩) hS.2.2 dX9_isBestAlone_24
  exact L2_41 8 (0) s.heap _ ls (by first | omega | (simp only [ltv_0]; omega)) (by first | omega | (simp only [ltv_0]; omega)) hP hD hS (lv_sub hl [0, 1, 2, 3] rfl)
theorem dX9_isRest_0 : decode cX9_isRest 0 = .ok (.iload_n 1, 1) := by decide +kernel
theorem dX9_isRest_1 : decode cX9_isRest 1 = .ok (.bipush 10, 2) := by decide +kernel
theorem dX9_isRest_10 : decode cX9_isRest 10 = .ok (.iload_n 3, 1) := by decide +kernel
theorem dX9_isRest_11 : decode cX9_isRest 11 = .ok (.bipush 6, 2) := by decide +kernel
theorem dX9_isRest_13 : decode cX9_isRest 13 = .ok (.if_icmp .gt 25, 3) := by decide +kernel
theorem dX9_isRest_16 : decode cX9_isRest 16 = .ok (.iload_n 0, 1) := by decide +kernel
theorem dX9_isRest_17 : decode cX9_isRest 17 = .ok (.iload_n 2, 1) := by decide +kernel
theorem dX9_isRest_18 : decode cX9_isRest 18 = .ok (.iload_n 3, 1) := by decide +kernel
theorem dX9_isRest_19 : decode cX9_isRest 19 = .ok (.invokestatic 9, 3) := by decide +kernel
theorem dX9_isRest_22 : decode cX9_isRest 22 = .ok (.ifCond .eq 16, 3) := by decide +kernel
theorem dX9_isRest_25 : decode cX9_isRest 25 = .ok (.iload_n 0, 1) := by decide +kernel
theorem dX9_isRest_26 : decode cX9_isRest 26 = .ok (.iload_n 3, 1) := by decide +kernel
theorem dX9_isRest_27 : decode cX9_isRest 27 = .ok (.iload_n 2, 1) := by decide +kernel
theorem dX9_isRest_28 : decode cX9_isRest 28 = .ok (.invokestatic 9, 3) := by decide +kernel
theorem dX9_isRest_3 : decode cX9_isRest 3 = .ok (.idiv, 1) := by decide +kernel
theorem dX9_isRest_31 : decode cX9_isRest 31 = .ok (.ifCond .eq 7, 3) := by decide +kernel
theorem dX9_isRest_34 : decode cX9_isRest 34 = .ok (.iconst 1, 1) := by decide +kernel
theorem dX9_isRest_35 : decode cX9_isRest 35 = .ok (.goto 4, 3) := by decide +kernel
theorem dX9_isRest_38 : decode cX9_isRest 38 = .ok (.iconst 0, 1) := by decide +kernel
theorem dX9_isRest_39 : decode cX9_isRest 39 = .ok (.ireturn, 1) := by decide +kernel
theorem dX9_isRest_4 : decode cX9_isRest 4 = .ok (.istore_n 2, 1) := by decide +kernel
theorem dX9_isRest_5 : decode cX9_isRest 5 = .ok (.iload_n 1, 1) := by decide +kernel
theorem dX9_isRest_6 : decode cX9_isRest 6 = .ok (.bipush 10, 2) := by decide +kernel
theorem dX9_isRest_8 : decode cX9_isRest 8 = .ok (.irem, 1) := by decide +kernel
theorem dX9_isRest_9 : decode cX9_isRest 9 = .ok (.istore_n 3, 1) := by decide +kernel
def vX9_isRest : List Cond := .code yX9_isRest cX9_isRest 4 (some .boolean) :: ([.methodLink RX9 9 yX9_isBestAlone, .static yX9_isBestAlone, .initialized RX9, .code yX9_isBestAlone cX9_isBestAlone 4 (some .boolean), .methodLink RX9 15 yX9_gain, .static yX9_gain, .code yX9_gain cX9_gain 4 (some .int)])
set_option maxRecDepth 20000 in
theorem gX9_isRest_0 : GoodIn vX9_isRest (va_wsS RX9 9 yX9_isBestAlone vX9_isBestAlone) := goodIn_app (goodIn_r [.methodLink RX9 9 yX9_isBestAlone, .static yX9_isBestAlone, .initialized RX9] [1, 2, 3] (by decide +kernel) (by decide +kernel)) (goodIn_r (.code yX9_isBestAlone cX9_isBestAlone 4 (some .boolean) :: [.methodLink RX9 15 yX9_gain, .static yX9_gain, .initialized RX9, .code yX9_gain cX9_gain 4 (some .int)]) [4, 5, 6, 3, 7] (by decide +kernel) (by decide +kernel) : GoodIn vX9_isRest (.code yX9_isBestAlone cX9_isBestAlone 4 (some .boolean) :: [.methodLink RX9 15 yX9_gain, .static yX9_gain, .initialized RX9, .code yX9_gain cX9_gain 4 (some .int)]))
set_option maxHeartbeats 2000000 in
set_option maxRecDepth 100000 in
theorem kX9_isRest (l : Launch) (dC : Nat → ClassId) (dI : Nat → Nat → Nat) (k0 : Int32) (k1 : Int32) (hk0 : (0 ≤ k0.toInt ∧ k0.toInt ≤ 99)) (hk1 : (0 ≤ k1.toInt ∧ k1.toInt ≤ 69)) (sz : Nat) : Met l yX9_isRest vX9_isRest ({ frames := 2, cells := 0, slots := 0, locals := 46 }) (PC (dC, dI) [.int k0, .int k1] sz [] []) (va_Qi (S := Unit) (fun (r : Int32) _ => (0 ≤ r.toInt ∧ r.toInt ≤ 1)) (fun _ t => BC (dC, dI) (va_A [] sz) [] [] t) (va_A [] sz)) 0 0 (va_A [] sz) := by
  refine Met.ofW (cc := cX9_isRest) (maxL := 4) (ret := (some .boolean)) (by decide) rfl ?_
  intro p e s m args below meth c s₁ B hml hv
  obtain ⟨rfl, hsz, hP, hK, hD0, hN⟩ := hv
  have hx := B.exec
  have hb := B.bytes
  have hr := B.returns
  have hts := atoms_spec (ws := vX9_isRest) B.pre
  have hown : s.vm.findClass RX9 = some m.cls := findClass_of_methodNamed B.named
  have hlocks := B.notSynchronized
  subst hsz
  have hD := hD0.self (sz := s.heap.size)
  generalize hAe : va_A [] s.heap.size = A at hD ⊢
  have hA : ∀ q : Nat, s.heap.size ≤ q → A q := fun q h => by rw [← hAe]; exact Or.inr h
  have hS : va_S A s.heap s.heap [] := va_S.rf
  have hP : va_P (dC, dI) vwCl [] s.heap := hP
  have hl := lv_entry ([.int k0, .int k1]) (n := 4) (Nat.le_of_ble_eq_true rfl)
  rw [lg_entry_eq]
  generalize (lg_sl ([.int k0, .int k1]) ++ List.replicate (4 - (lg_sl ([.int k0, .int k1])).length) Slot.unset).toArray = ls at hl ⊢
  have hl : lv_has ls 4 [(0, .int k0), (1, .int k1)] := hl
  refine lv_iload_n hx hb dX9_isRest_0 rfl (lv_at hl 1 rfl) ?_
  refine lv_bipush (v := 10) hx hb dX9_isRest_1 (by decide) ?_
  refine lv_idiv hx hb dX9_isRest_3 (by decide) ?_
  refine lv_topi (fun z1 ez1 => ?_)
  have tz1 : z1.toInt = k1.toInt / 10 := by rw [ez1]; rw [idiv_t (by omega) (by decide)]; simp only [ltv_0, ltv_10]
  refine lv_istore_n (lv' := [(2, .int z1), (0, .int k0), (1, .int k1)]) hx hb dX9_isRest_4 rfl hl (by decide) rfl (fun ls hl => ?_)
  refine lv_iload_n hx hb dX9_isRest_5 rfl (lv_at hl 2 rfl) ?_
  refine lv_bipush (v := 10) hx hb dX9_isRest_6 (by decide) ?_
  refine lv_irem hx hb dX9_isRest_8 (by decide) ?_
  refine lv_topi (fun z2 ez2 => ?_)
  have tz2 : z2.toInt = k1.toInt % 10 := by rw [ez2]; rw [irem_t (by omega) (by decide)]; simp only [ltv_0, ltv_10]
  refine lv_istore_n (lv' := [(3, .int z2), (2, .int z1), (0, .int k0), (1, .int k1)]) hx hb dX9_isRest_9 rfl hl (by decide) rfl (fun ls hl => ?_)
  refine lv_iload_n hx hb dX9_isRest_10 rfl (lv_at hl 0 rfl) ?_
  refine lv_bipush (v := 6) hx hb dX9_isRest_11 (by decide) ?_
  refine lv_icmp_gt (tgt := 38) hx hb dX9_isRest_13 (by decide) (fun c3 => ?_) (fun c3 => ?_)
  · simp only [fa_lt, fa_le, fa_eq, ltv_0, ltv_6] at c3
    refine lv_iconst (v := 0) hx hb dX9_isRest_38 (by decide) ?_
    have hP9 := hP.sub (ws' := []) [] rfl
    have hD9 := hD.sub (ws' := []) [] (by decide) rfl
    have hK9 := hK.sub (tys' := []) [] rfl
    exact W.zret (v := 0) hx hb hr rfl (fun t ht hW => ⟨⟨0, (), rfl, (by first | trivial | omega | (simp only [ltv_0]; omega)), by rw [ht]; exact hP9, va_K.moved hW.alike hK9, hD9⟩, hS.F ht⟩) hS.2.2 dX9_isRest_39
  · simp only [fa_lt, fa_le, fa_eq, ltv_0, ltv_6] at c3
    refine lv_iload_n hx hb dX9_isRest_16 rfl (lv_at hl 2 rfl) ?_
    refine lv_iload_n hx hb dX9_isRest_17 rfl (lv_at hl 1 rfl) ?_
    refine lv_iload_n hx hb dX9_isRest_18 rfl (lv_at hl 0 rfl) ?_
    refine cl_i (wc := []) (wr := []) (va_runS (As := [.int k0, .int z1, .int z2]) (rest := []) ⟨hx, hb, hml, hown, hts⟩ (kX9_isBestAlone l dC dI k0 z1 z2 (by first | omega | (simp only [ltv_0]; omega)) (by first | omega | (simp only [ltv_0]; omega)) (by first | omega | (simp only [ltv_0]; omega)) s.heap.size) (va_cwS 3 hts gX9_isRest_0 rfl rfl rfl (by decide +kernel) ⟨Nat.le_of_ble_eq_true rfl, Nat.le_of_ble_eq_true rfl⟩) (PS (hP.sub (ws' := []) [] rfl) (hK.sub (tys' := []) [] rfl) (hD.sub (ws' := []) [] (by decide) rfl) hN) rfl rfl hl.1 rfl (lv_room (Nat.le_of_ble_eq_true rfl)) dX9_isRest_19 ⟨Nat.le_of_ble_eq_true rfl, Nat.le_of_ble_eq_true rfl⟩) hP hD hK hS hA [] [] rfl rfl (by decide) (by decide) (fun z4 _u H locs hw hP hD hK hS => ?_)
    have b5 := hw
    have hP : va_P (dC, dI) vwCl [] H := hP
    have hD : va_D A [] := hD
    have hK : va_K (dC, dI) vwCl [] s := hK
    refine lv_if_eq (tgt := 38) hx hb dX9_isRest_22 (by decide) (fun c6 => ?_) (fun c6 => ?_)
    · simp only [fa_lt, fa_le, fa_eq, ltv_0] at c6
      refine lv_iconst (v := 0) hx hb dX9_isRest_38 (by decide) ?_
      have hP9 := hP.sub (ws' := []) [] rfl
      have hD9 := hD.sub (ws' := []) [] (by decide) rfl
      have hK9 := hK.sub (tys' := []) [] rfl
      exact W.zret (v := 0) hx hb hr rfl (fun t ht hW => ⟨⟨0, (), rfl, (by first | trivial | omega | (simp only [ltv_0]; omega)), by rw [ht]; exact hP9, va_K.moved hW.alike hK9, hD9⟩, hS.F ht⟩) hS.2.2 dX9_isRest_39
    · simp only [fa_lt, fa_le, fa_eq, ltv_0] at c6
      refine lv_iload_n hx hb dX9_isRest_25 rfl (lv_at hl 2 rfl) ?_
      refine lv_iload_n hx hb dX9_isRest_26 rfl (lv_at hl 0 rfl) ?_
      refine lv_iload_n hx hb dX9_isRest_27 rfl (lv_at hl 1 rfl) ?_
      refine cl_i (wc := []) (wr := []) (va_runS (As := [.int k0, .int z2, .int z1]) (rest := []) ⟨hx, hb, hml, hown, hts⟩ (kX9_isBestAlone l dC dI k0 z2 z1 (by first | omega | (simp only [ltv_0]; omega)) (by first | omega | (simp only [ltv_0]; omega)) (by first | omega | (simp only [ltv_0]; omega)) H.size) (va_cwS 3 hts gX9_isRest_0 rfl rfl rfl (by decide +kernel) ⟨Nat.le_of_ble_eq_true rfl, Nat.le_of_ble_eq_true rfl⟩) (PS (hP.sub (ws' := []) [] rfl) (hK.sub (tys' := []) [] rfl) (hD.sub (ws' := []) [] (by decide) rfl) hN) rfl rfl hl.1 rfl (lv_room (Nat.le_of_ble_eq_true rfl)) dX9_isRest_28 ⟨Nat.le_of_ble_eq_true rfl, Nat.le_of_ble_eq_true rfl⟩) hP hD hK hS hA [] [] rfl rfl (by decide) (by decide) (fun z7 _u H locs hw hP hD hK hS => ?_)
      have b8 := hw
      have hP : va_P (dC, dI) vwCl [] H := hP
      have hD : va_D A [] := hD
      have hK : va_K (dC, dI) vwCl [] s := hK
      refine lv_if_eq (tgt := 38) hx hb dX9_isRest_31 (by decide) (fun c9 => ?_) (fun c9 => ?_)
      · simp only [fa_lt, fa_le, fa_eq, ltv_0] at c9
        refine lv_iconst (v := 0) hx hb dX9_isRest_38 (by decide) ?_
        have hP9 := hP.sub (ws' := []) [] rfl
        have hD9 := hD.sub (ws' := []) [] (by decide) rfl
        have hK9 := hK.sub (tys' := []) [] rfl
        exact W.zret (v := 0) hx hb hr rfl (fun t ht hW => ⟨⟨0, (), rfl, (by first | trivial | omega | (simp only [ltv_0]; omega)), by rw [ht]; exact hP9, va_K.moved hW.alike hK9, hD9⟩, hS.F ht⟩) hS.2.2 dX9_isRest_39
      · simp only [fa_lt, fa_le, fa_eq, ltv_0] at c9
        refine lv_iconst (v := 1) hx hb dX9_isRest_34 (by decide) ?_
        refine lv_goto (tgt := 39) hx hb dX9_isRest_35 (by decide) ?_
        have hP9 := hP.sub (ws' := []) [] rfl
        have hD9 := hD.sub (ws' := []) [] (by decide) rfl
        have hK9 := hK.sub (tys' := []) [] rfl
        exact W.zret (v := 1) hx hb hr rfl (fun t ht hW => ⟨⟨1, (), rfl, (by first | trivial | omega | (simp only [ltv_0, ltv_1]; omega)), by rw [ht]; exact hP9, va_K.moved hW.alike hK9, hD9⟩, hS.F ht⟩) hS.2.2 dX9_isRest_39
theorem dX10_spotOf_0 : decode cX10_spotOf 0 = .ok (.iload_n 0, 1) := by decide +kernel
theorem dX10_spotOf_1 : decode cX10_spotOf 1 = .ok (.bipush 100, 2) := by decide +kernel
theorem dX10_spotOf_3 : decode cX10_spotOf 3 = .ok (.idiv, 1) := by decide +kernel
theorem dX10_spotOf_4 : decode cX10_spotOf 4 = .ok (.ireturn, 1) := by decide +kernel
def vX10_spotOf : List Cond := .code yX10_spotOf cX10_spotOf 1 (some .int) :: ([])
set_option maxHeartbeats 2000000 in
set_option maxRecDepth 100000 in
theorem kX10_spotOf (l : Launch) (dC : Nat → ClassId) (dI : Nat → Nat → Nat) (k0 : Int32) (sz : Nat) : Met l yX10_spotOf vX10_spotOf ({ frames := 0, cells := 0, slots := 0, locals := 0 }) (PC (dC, dI) [.int k0] sz [] []) (va_Qi (S := Unit) (fun (r : Int32) _ => True) (fun _ t => BC (dC, dI) (va_A [] sz) [] [] t) (va_A [] sz)) 0 0 (va_A [] sz) := by
  refine Met.ofW (cc := cX10_spotOf) (maxL := 1) (ret := (some .int)) (by decide) rfl ?_
  intro p e s m args below meth c s₁ B hml hv
  obtain ⟨rfl, hsz, hP, hK, hD0, hN⟩ := hv
  have hx := B.exec
  have hb := B.bytes
  have hr := B.returns
  have hts := atoms_spec (ws := vX10_spotOf) B.pre
  have hown : s.vm.findClass RX10 = some m.cls := findClass_of_methodNamed B.named
  have hlocks := B.notSynchronized
  subst hsz
  have hD := hD0.self (sz := s.heap.size)
  generalize hAe : va_A [] s.heap.size = A at hD ⊢
  have hA : ∀ q : Nat, s.heap.size ≤ q → A q := fun q h => by rw [← hAe]; exact Or.inr h
  have hS : va_S A s.heap s.heap [] := va_S.rf
  have hP : va_P (dC, dI) vwCl [] s.heap := hP
  have hl := lv_entry ([.int k0]) (n := 1) (Nat.le_of_ble_eq_true rfl)
  rw [lg_entry_eq]
  generalize (lg_sl ([.int k0]) ++ List.replicate (1 - (lg_sl ([.int k0])).length) Slot.unset).toArray = ls at hl ⊢
  have hl : lv_has ls 1 [(0, .int k0)] := hl
  refine lv_iload_n hx hb dX10_spotOf_0 rfl (lv_at hl 0 rfl) ?_
  refine lv_bipush (v := 100) hx hb dX10_spotOf_1 (by decide) ?_
  refine lv_idiv hx hb dX10_spotOf_3 (by decide) ?_
  refine lv_topi (fun z1 ez1 => ?_)
  clear ez1
  have hP9 := hP.sub (ws' := []) [] rfl
  have hD9 := hD.sub (ws' := []) [] (by decide) rfl
  have hK9 := hK.sub (tys' := []) [] rfl
  exact W.iret (v := z1) hx hb hr (fun t ht hW => ⟨⟨z1, (), rfl, trivial, by rw [ht]; exact hP9, va_K.moved hW.alike hK9, hD9⟩, hS.F ht⟩) hS.2.2 dX10_spotOf_4
theorem dX10_within_0 : decode cX10_within 0 = .ok (.iload_n 0, 1) := by decide +kernel
theorem dX10_within_1 : decode cX10_within 1 = .ok (.iload_n 1, 1) := by decide +kernel
theorem dX10_within_10 : decode cX10_within 10 = .ok (.iconst 1, 1) := by decide +kernel
theorem dX10_within_11 : decode cX10_within 11 = .ok (.goto 4, 3) := by decide +kernel
theorem dX10_within_14 : decode cX10_within 14 = .ok (.iconst 0, 1) := by decide +kernel
theorem dX10_within_15 : decode cX10_within 15 = .ok (.ireturn, 1) := by decide +kernel
theorem dX10_within_2 : decode cX10_within 2 = .ok (.if_icmp .lt 12, 3) := by decide +kernel
theorem dX10_within_5 : decode cX10_within 5 = .ok (.iload_n 0, 1) := by decide +kernel
theorem dX10_within_6 : decode cX10_within 6 = .ok (.iload_n 2, 1) := by decide +kernel
theorem dX10_within_7 : decode cX10_within 7 = .ok (.if_icmp .gt 7, 3) := by decide +kernel
def vX10_within : List Cond := .code yX10_within cX10_within 3 (some .boolean) :: ([])
set_option maxHeartbeats 2000000 in
set_option maxRecDepth 100000 in
theorem kX10_within (l : Launch) (dC : Nat → ClassId) (dI : Nat → Nat → Nat) (k0 : Int32) (k1 : Int32) (k2 : Int32) (sz : Nat) : Met l yX10_within vX10_within ({ frames := 0, cells := 0, slots := 0, locals := 0 }) (PC (dC, dI) [.int k0, .int k1, .int k2] sz [] []) (va_Qi (S := Unit) (fun (r : Int32) _ => (0 ≤ r.toInt ∧ r.toInt ≤ 1)) (fun _ t => BC (dC, dI) (va_A [] sz) [] [] t) (va_A [] sz)) 0 0 (va_A [] sz) := by
  refine Met.ofW (cc := cX10_within) (maxL := 3) (ret := (some .boolean)) (by decide) rfl ?_
  intro p e s m args below meth c s₁ B hml hv
  obtain ⟨rfl, hsz, hP, hK, hD0, hN⟩ := hv
  have hx := B.exec
  have hb := B.bytes
  have hr := B.returns
  have hts := atoms_spec (ws := vX10_within) B.pre
  have hown : s.vm.findClass RX10 = some m.cls := findClass_of_methodNamed B.named
  have hlocks := B.notSynchronized
  subst hsz
  have hD := hD0.self (sz := s.heap.size)
  generalize hAe : va_A [] s.heap.size = A at hD ⊢
  have hA : ∀ q : Nat, s.heap.size ≤ q → A q := fun q h => by rw [← hAe]; exact Or.inr h
  have hS : va_S A s.heap s.heap [] := va_S.rf
  have hP : va_P (dC, dI) vwCl [] s.heap := hP
  have hl := lv_entry ([.int k0, .int k1, .int k2]) (n := 3) (Nat.le_of_ble_eq_true rfl)
  rw [lg_entry_eq]
  generalize (lg_sl ([.int k0, .int k1, .int k2]) ++ List.replicate (3 - (lg_sl ([.int k0, .int k1, .int k2])).length) Slot.unset).toArray = ls at hl ⊢
  have hl : lv_has ls 3 [(0, .int k0), (1, .int k1), (2, .int k2)] := hl
  refine lv_iload_n hx hb dX10_within_0 rfl (lv_at hl 0 rfl) ?_
  refine lv_iload_n hx hb dX10_within_1 rfl (lv_at hl 1 rfl) ?_
  refine lv_icmp_lt (tgt := 14) hx hb dX10_within_2 (by decide) (fun c1 => ?_) (fun c1 => ?_)
  · simp only [fa_lt, fa_le, fa_eq, ltv_0] at c1
    refine lv_iconst (v := 0) hx hb dX10_within_14 (by decide) ?_
    have hP9 := hP.sub (ws' := []) [] rfl
    have hD9 := hD.sub (ws' := []) [] (by decide) rfl
    have hK9 := hK.sub (tys' := []) [] rfl
    exact W.zret (v := 0) hx hb hr rfl (fun t ht hW => ⟨⟨0, (), rfl, (by first | trivial | omega | (simp only [ltv_0]; omega)), by rw [ht]; exact hP9, va_K.moved hW.alike hK9, hD9⟩, hS.F ht⟩) hS.2.2 dX10_within_15
  · simp only [fa_lt, fa_le, fa_eq, ltv_0] at c1
    refine lv_iload_n hx hb dX10_within_5 rfl (lv_at hl 0 rfl) ?_
    refine lv_iload_n hx hb dX10_within_6 rfl (lv_at hl 2 rfl) ?_
    refine lv_icmp_gt (tgt := 14) hx hb dX10_within_7 (by decide) (fun c2 => ?_) (fun c2 => ?_)
    · simp only [fa_lt, fa_le, fa_eq, ltv_0] at c2
      refine lv_iconst (v := 0) hx hb dX10_within_14 (by decide) ?_
      have hP9 := hP.sub (ws' := []) [] rfl
      have hD9 := hD.sub (ws' := []) [] (by decide) rfl
      have hK9 := hK.sub (tys' := []) [] rfl
      exact W.zret (v := 0) hx hb hr rfl (fun t ht hW => ⟨⟨0, (), rfl, (by first | trivial | omega | (simp only [ltv_0]; omega)), by rw [ht]; exact hP9, va_K.moved hW.alike hK9, hD9⟩, hS.F ht⟩) hS.2.2 dX10_within_15
    · simp only [fa_lt, fa_le, fa_eq, ltv_0] at c2
      refine lv_iconst (v := 1) hx hb dX10_within_10 (by decide) ?_
      refine lv_goto (tgt := 15) hx hb dX10_within_11 (by decide) ?_
      have hP9 := hP.sub (ws' := []) [] rfl
      have hD9 := hD.sub (ws' := []) [] (by decide) rfl
      have hK9 := hK.sub (tys' := []) [] rfl
      exact W.zret (v := 1) hx hb hr rfl (fun t ht hW => ⟨⟨1, (), rfl, (by first | trivial | omega | (simp only [ltv_0, ltv_1]; omega)), by rw [ht]; exact hP9, va_K.moved hW.alike hK9, hD9⟩, hS.F ht⟩) hS.2.2 dX10_within_15
theorem dX6_hasSpot_0 : decode cX6_hasSpot 0 = .ok (.iload_n 1, 1) := by decide +kernel
theorem dX6_hasSpot_1 : decode cX6_hasSpot 1 = .ok (.iconst 0, 1) := by decide +kernel
theorem dX6_hasSpot_11 : decode cX6_hasSpot 11 = .ok (.ireturn, 1) := by decide +kernel
theorem dX6_hasSpot_2 : decode cX6_hasSpot 2 = .ok (.aload_n 0, 1) := by decide +kernel
theorem dX6_hasSpot_3 : decode cX6_hasSpot 3 = .ok (.getfield 9, 3) := by decide +kernel
theorem dX6_hasSpot_6 : decode cX6_hasSpot 6 = .ok (.iconst 1, 1) := by decide +kernel
theorem dX6_hasSpot_7 : decode cX6_hasSpot 7 = .ok (.isub, 1) := by decide +kernel
theorem dX6_hasSpot_8 : decode cX6_hasSpot 8 = .ok (.invokestatic 68, 3) := by decide +kernel
def vX6_hasSpot : List Cond := .code yX6_hasSpot cX6_hasSpot 2 (some .boolean) :: ([.fieldLink RX6 9 "HookPier$Plan" "spots" "I", .code yX10_within cX10_within 3 (some .boolean), .initialized RX10, .static yX10_within] ++ wsX60)
theorem iX6_hasSpot_X6 : ∀ w ∈ wsX60, w ∈ vX6_hasSpot := fun _ h => List.mem_cons_of_mem _ (List.mem_append_right _ h)
set_option maxRecDepth 20000 in
theorem gX6_hasSpot_0 : GoodIn vX6_hasSpot vX10_within := (goodIn_r (.code yX10_within cX10_within 3 (some .boolean) :: []) [2] (by decide +kernel) (by decide +kernel) : GoodIn vX6_hasSpot (.code yX10_within cX10_within 3 (some .boolean) :: []))
set_option maxHeartbeats 2000000 in
set_option maxRecDepth 100000 in
theorem kX6_hasSpot (l : Launch) (dC : Nat → ClassId) (dI : Nat → Nat → Nat) (a0 : Nat) (k1 : Int32) (k2 : Int32) (g3 : Value) (g4 : Value) (g5 : Value) (g6 : Value) (g7 : Value) (g8 : Value) (g9 : Value) (g10 : Value) (g11 : Value) (g12 : Value) (g13 : Value) (g14 : Value) (g15 : Value) (g16 : Value) (g17 : Value) (g18 : Value) (g19 : Value) (hk2 : (0 ≤ k2.toInt ∧ k2.toInt ≤ 8)) (sz : Nat) : Met l yX6_hasSpot vX6_hasSpot ({ frames := 1, cells := 0, slots := 0, locals := 22 }) (PC (dC, dI) [.ref a0, .int k1] sz [(a0, .inr (4, [.int k2, g3, g4, g5, g6, g7, g8, g9, g10, g11, g12, g13, g14, g15, g16, g17, g18, g19]))] []) (va_Qi (S := Unit) (fun (r : Int32) _ => (0 ≤ r.toInt ∧ r.toInt ≤ 1)) (fun _ t => BC (dC, dI) (va_A [(a0, .inr (4, [.int k2, g3, g4, g5, g6, g7, g8, g9, g10, g11, g12, g13, g14, g15, g16, g17, g18, g19]))] sz) [(a0, .inr (4, [.int k2, g3, g4, g5, g6, g7, g8, g9, g10, g11, g12, g13, g14, g15, g16, g17, g18, g19]))] [] t) (va_A [(a0, .inr (4, [.int k2, g3, g4, g5, g6, g7, g8, g9, g10, g11, g12, g13, g14, g15, g16, g17, g18, g19]))] sz)) 0 0 (va_A [(a0, .inr (4, [.int k2, g3, g4, g5, g6, g7, g8, g9, g10, g11, g12, g13, g14, g15, g16, g17, g18, g19]))] sz) := by
  refine Met.ofW (cc := cX6_hasSpot) (maxL := 2) (ret := (some .boolean)) (by decide) rfl ?_
  intro p e s m args below meth c s₁ B hml hv
  obtain ⟨rfl, hsz, hP, hK, hD0, hN⟩ := hv
  have hx := B.exec
  have hb := B.bytes
  have hr := B.returns
  have hts := atoms_spec (ws := vX6_hasSpot) B.pre
  have hown : s.vm.findClass RX6 = some m.cls := findClass_of_methodNamed B.named
  have hlocks := B.notSynchronized
  subst hsz
  have hD := hD0.self (sz := s.heap.size)
  generalize hAe : va_A [(a0, .inr (4, [.int k2, g3, g4, g5, g6, g7, g8, g9, g10, g11, g12, g13, g14, g15, g16, g17, g18, g19]))] s.heap.size = A at hD ⊢
  have hA : ∀ q : Nat, s.heap.size ≤ q → A q := fun q h => by rw [← hAe]; exact Or.inr h
  have hS : va_S A s.heap s.heap [] := va_S.rf
  have hP : va_P (dC, dI) vwCl [(a0, .inr (4, [.int k2, g3, g4, g5, g6, g7, g8, g9, g10, g11, g12, g13, g14, g15, g16, g17, g18, g19]))] s.heap := hP
  have hl := lv_entry ([.ref a0, .int k1]) (n := 2) (Nat.le_of_ble_eq_true rfl)
  rw [lg_entry_eq]
  generalize (lg_sl ([.ref a0, .int k1]) ++ List.replicate (2 - (lg_sl ([.ref a0, .int k1])).length) Slot.unset).toArray = ls at hl ⊢
  have hl : lv_has ls 2 [(0, .ref a0), (1, .int k1)] := hl
  refine lv_iload_n hx hb dX6_hasSpot_0 rfl (lv_at hl 1 rfl) ?_
  refine lv_iconst (v := 0) hx hb dX6_hasSpot_1 (by decide) ?_
  refine lv_aload_n hx hb dX6_hasSpot_2 rfl (lv_at hl 0 rfl) ?_
  refine va_get (D := (dC, dI)) (ci := 4) (v := .int k2) (C := RX6) (T := TX6) (N := 18) hx hb hts iX6_hasSpot_X6 hown hK hP 0 rfl rfl 0 (by decide) (hts (.fieldLink RX6 9 "HookPier$Plan" "spots" "I") (List.mem_of_getElem? (i := 1) rfl)) (fun _ h9 => h9) rfl dX6_hasSpot_3 ?_
  refine lv_iconst (v := 1) hx hb dX6_hasSpot_6 (by decide) ?_
  refine lv_isub hx hb dX6_hasSpot_7 ?_
  refine lv_topi (fun z1 ez1 => ?_)
  have tz1 : z1.toInt = k2.toInt - 1 := by rw [ez1]; rw [isub_t (by first | omega | (simp only [ltv_0, ltv_1]; omega)) (by first | omega | (simp only [ltv_0, ltv_1]; omega))]; first | done | (simp only [ltv_0, ltv_1])
  refine cl_i (wc := []) (wr := [(a0, .inr (4, [.int k2, g3, g4, g5, g6, g7, g8, g9, g10, g11, g12, g13, g14, g15, g16, g17, g18, g19]))]) (va_runSN (As := [.int k1, .int 0, .int z1]) (rest := []) ⟨hx, hb, hml, hown, hts⟩ (kX10_within l dC dI k1 0 z1  s.heap.size) ⟨va_cnB 3 hts gX6_hasSpot_0 rfl rfl rfl (hN.1 (.methodLinkNest RX6 68 yX10_within "HookPier") (List.mem_of_getElem? (i := 10) rfl)) (hts (.initialized RX10) (List.mem_of_getElem? (i := 3) rfl)) (by decide +kernel) ⟨Nat.le_of_ble_eq_true rfl, Nat.le_of_ble_eq_true rfl⟩, (hts (.static yX10_within) (List.mem_of_getElem? (i := 4) rfl)), trivial⟩ (PS (hP.sub (ws' := []) [] rfl) (hK.sub (tys' := []) [] rfl) (hD.sub (ws' := []) [] (by decide) rfl) hN) rfl rfl hl.1 rfl (lv_room (Nat.le_of_ble_eq_true rfl)) dX6_hasSpot_8 ⟨Nat.le_of_ble_eq_true rfl, Nat.le_of_ble_eq_true rfl⟩) hP hD hK hS hA [] [0] rfl rfl (by decide) (by decide) (fun z2 _u H locs hw hP hD hK hS => ?_)
  have b3 := hw
  have hP : va_P (dC, dI) vwCl [(a0, .inr (4, [.int k2, g3, g4, g5, g6, g7, g8, g9, g10, g11, g12, g13, g14, g15, g16, g17, g18, g19]))] H := hP
  have hD : va_D A [(a0, .inr (4, [.int k2, g3, g4, g5, g6, g7, g8, g9, g10, g11, g12, g13, g14, g15, g16, g17, g18, g19]))] := hD
  have hK : va_K (dC, dI) vwCl [] s := hK
  have hP9 := hP.sub (ws' := [(a0, .inr (4, [.int k2, g3, g4, g5, g6, g7, g8, g9, g10, g11, g12, g13, g14, g15, g16, g17, g18, g19]))]) [0] rfl
  have hD9 := hD.sub (ws' := [(a0, .inr (4, [.int k2, g3, g4, g5, g6, g7, g8, g9, g10, g11, g12, g13, g14, g15, g16, g17, g18, g19]))]) [0] (by decide) rfl
  have hK9 := hK.sub (tys' := []) [] rfl
  exact W.zret (v := z2) hx hb hr (narz (by first | trivial | omega | (simp only [ltv_0]; omega))) (fun t ht hW => ⟨⟨z2, (), rfl, (by first | trivial | omega | (simp only [ltv_0]; omega)), by rw [ht]; exact hP9, va_K.moved hW.alike hK9, hD9⟩, hS.F ht⟩) hS.2.2 dX6_hasSpot_11
theorem dX10_fathomsOf_0 : decode cX10_fathomsOf 0 = .ok (.iload_n 0, 1) := by decide +kernel
theorem dX10_fathomsOf_1 : decode cX10_fathomsOf 1 = .ok (.bipush 10, 2) := by decide +kernel
theorem dX10_fathomsOf_3 : decode cX10_fathomsOf 3 = .ok (.idiv, 1) := by decide +kernel
theorem dX10_fathomsOf_4 : decode cX10_fathomsOf 4 = .ok (.bipush 10, 2) := by decide +kernel
theorem dX10_fathomsOf_6 : decode cX10_fathomsOf 6 = .ok (.irem, 1) := by decide +kernel
theorem dX10_fathomsOf_7 : decode cX10_fathomsOf 7 = .ok (.ireturn, 1) := by decide +kernel
def vX10_fathomsOf : List Cond := .code yX10_fathomsOf cX10_fathomsOf 1 (some .int) :: ([])
set_option maxHeartbeats 2000000 in
set_option maxRecDepth 100000 in
theorem kX10_fathomsOf (l : Launch) (dC : Nat → ClassId) (dI : Nat → Nat → Nat) (k0 : Int32) (sz : Nat) : Met l yX10_fathomsOf vX10_fathomsOf ({ frames := 0, cells := 0, slots := 0, locals := 0 }) (PC (dC, dI) [.int k0] sz [] []) (va_Qi (S := Unit) (fun (r : Int32) _ => True) (fun _ t => BC (dC, dI) (va_A [] sz) [] [] t) (va_A [] sz)) 0 0 (va_A [] sz) := by
  refine Met.ofW (cc := cX10_fathomsOf) (maxL := 1) (ret := (some .int)) (by decide) rfl ?_
  intro p e s m args below meth c s₁ B hml hv
  obtain ⟨rfl, hsz, hP, hK, hD0, hN⟩ := hv
  have hx := B.exec
  have hb := B.bytes
  have hr := B.returns
  have hts := atoms_spec (ws := vX10_fathomsOf) B.pre
  have hown : s.vm.findClass RX10 = some m.cls := findClass_of_methodNamed B.named
  have hlocks := B.notSynchronized
  subst hsz
  have hD := hD0.self (sz := s.heap.size)
  generalize hAe : va_A [] s.heap.size = A at hD ⊢
  have hA : ∀ q : Nat, s.heap.size ≤ q → A q := fun q h => by rw [← hAe]; exact Or.inr h
  have hS : va_S A s.heap s.heap [] := va_S.rf
  have hP : va_P (dC, dI) vwCl [] s.heap := hP
  have hl := lv_entry ([.int k0]) (n := 1) (Nat.le_of_ble_eq_true rfl)
  rw [lg_entry_eq]
  generalize (lg_sl ([.int k0]) ++ List.replicate (1 - (lg_sl ([.int k0])).length) Slot.unset).toArray = ls at hl ⊢
  have hl : lv_has ls 1 [(0, .int k0)] := hl
  refine lv_iload_n hx hb dX10_fathomsOf_0 rfl (lv_at hl 0 rfl) ?_
  refine lv_bipush (v := 10) hx hb dX10_fathomsOf_1 (by decide) ?_
  refine lv_idiv hx hb dX10_fathomsOf_3 (by decide) ?_
  refine lv_topi (fun z1 ez1 => ?_)
  clear ez1
  refine lv_bipush (v := 10) hx hb dX10_fathomsOf_4 (by decide) ?_
  refine lv_irem hx hb dX10_fathomsOf_6 (by decide) ?_
  refine lv_topi (fun z2 ez2 => ?_)
  clear ez2
  have hP9 := hP.sub (ws' := []) [] rfl
  have hD9 := hD.sub (ws' := []) [] (by decide) rfl
  have hK9 := hK.sub (tys' := []) [] rfl
  exact W.iret (v := z2) hx hb hr (fun t ht hW => ⟨⟨z2, (), rfl, trivial, by rw [ht]; exact hP9, va_K.moved hW.alike hK9, hD9⟩, hS.F ht⟩) hS.2.2 dX10_fathomsOf_7
theorem dX10_baitOf_0 : decode cX10_baitOf 0 = .ok (.iload_n 0, 1) := by decide +kernel
theorem dX10_baitOf_1 : decode cX10_baitOf 1 = .ok (.bipush 10, 2) := by decide +kernel
theorem dX10_baitOf_3 : decode cX10_baitOf 3 = .ok (.irem, 1) := by decide +kernel
theorem dX10_baitOf_4 : decode cX10_baitOf 4 = .ok (.ireturn, 1) := by decide +kernel
def vX10_baitOf : List Cond := .code yX10_baitOf cX10_baitOf 1 (some .int) :: ([])
set_option maxHeartbeats 2000000 in
set_option maxRecDepth 100000 in
theorem kX10_baitOf (l : Launch) (dC : Nat → ClassId) (dI : Nat → Nat → Nat) (k0 : Int32) (sz : Nat) : Met l yX10_baitOf vX10_baitOf ({ frames := 0, cells := 0, slots := 0, locals := 0 }) (PC (dC, dI) [.int k0] sz [] []) (va_Qi (S := Unit) (fun (r : Int32) _ => True) (fun _ t => BC (dC, dI) (va_A [] sz) [] [] t) (va_A [] sz)) 0 0 (va_A [] sz) := by
  refine Met.ofW (cc := cX10_baitOf) (maxL := 1) (ret := (some .int)) (by decide) rfl ?_
  intro p e s m args below meth c s₁ B hml hv
  obtain ⟨rfl, hsz, hP, hK, hD0, hN⟩ := hv
  have hx := B.exec
  have hb := B.bytes
  have hr := B.returns
  have hts := atoms_spec (ws := vX10_baitOf) B.pre
  have hown : s.vm.findClass RX10 = some m.cls := findClass_of_methodNamed B.named
  have hlocks := B.notSynchronized
  subst hsz
  have hD := hD0.self (sz := s.heap.size)
  generalize hAe : va_A [] s.heap.size = A at hD ⊢
  have hA : ∀ q : Nat, s.heap.size ≤ q → A q := fun q h => by rw [← hAe]; exact Or.inr h
  have hS : va_S A s.heap s.heap [] := va_S.rf
  have hP : va_P (dC, dI) vwCl [] s.heap := hP
  have hl := lv_entry ([.int k0]) (n := 1) (Nat.le_of_ble_eq_true rfl)
  rw [lg_entry_eq]
  generalize (lg_sl ([.int k0]) ++ List.replicate (1 - (lg_sl ([.int k0])).length) Slot.unset).toArray = ls at hl ⊢
  have hl : lv_has ls 1 [(0, .int k0)] := hl
  refine lv_iload_n hx hb dX10_baitOf_0 rfl (lv_at hl 0 rfl) ?_
  refine lv_bipush (v := 10) hx hb dX10_baitOf_1 (by decide) ?_
  refine lv_irem hx hb dX10_baitOf_3 (by decide) ?_
  refine lv_topi (fun z1 ez1 => ?_)
  clear ez1
  have hP9 := hP.sub (ws' := []) [] rfl
  have hD9 := hD.sub (ws' := []) [] (by decide) rfl
  have hK9 := hK.sub (tys' := []) [] rfl
  exact W.iret (v := z1) hx hb hr (fun t ht hW => ⟨⟨z1, (), rfl, trivial, by rw [ht]; exact hP9, va_K.moved hW.alike hK9, hD9⟩, hS.F ht⟩) hS.2.2 dX10_baitOf_4
theorem dX6_hasBait_0 : decode cX6_hasBait 0 = .ok (.iload_n 1, 1) := by decide +kernel
theorem dX6_hasBait_1 : decode cX6_hasBait 1 = .ok (.iconst 0, 1) := by decide +kernel
theorem dX6_hasBait_11 : decode cX6_hasBait 11 = .ok (.ireturn, 1) := by decide +kernel
theorem dX6_hasBait_2 : decode cX6_hasBait 2 = .ok (.aload_n 0, 1) := by decide +kernel
theorem dX6_hasBait_3 : decode cX6_hasBait 3 = .ok (.getfield 24, 3) := by decide +kernel
theorem dX6_hasBait_6 : decode cX6_hasBait 6 = .ok (.iconst 1, 1) := by decide +kernel
theorem dX6_hasBait_7 : decode cX6_hasBait 7 = .ok (.isub, 1) := by decide +kernel
theorem dX6_hasBait_8 : decode cX6_hasBait 8 = .ok (.invokestatic 68, 3) := by decide +kernel
def vX6_hasBait : List Cond := .code yX6_hasBait cX6_hasBait 2 (some .boolean) :: ([.fieldLink RX6 24 "HookPier$Plan" "baits" "I", .code yX10_within cX10_within 3 (some .boolean), .initialized RX10, .static yX10_within] ++ wsX60)
theorem iX6_hasBait_X6 : ∀ w ∈ wsX60, w ∈ vX6_hasBait := fun _ h => List.mem_cons_of_mem _ (List.mem_append_right _ h)
set_option maxRecDepth 20000 in
theorem gX6_hasBait_0 : GoodIn vX6_hasBait vX10_within := (goodIn_r (.code yX10_within cX10_within 3 (some .boolean) :: []) [2] (by decide +kernel) (by decide +kernel) : GoodIn vX6_hasBait (.code yX10_within cX10_within 3 (some .boolean) :: []))
set_option maxHeartbeats 2000000 in
set_option maxRecDepth 100000 in
theorem kX6_hasBait (l : Launch) (dC : Nat → ClassId) (dI : Nat → Nat → Nat) (a0 : Nat) (k1 : Int32) (g2 : Value) (g3 : Value) (g4 : Value) (g5 : Value) (k6 : Int32) (g7 : Value) (g8 : Value) (g9 : Value) (g10 : Value) (g11 : Value) (g12 : Value) (g13 : Value) (g14 : Value) (g15 : Value) (g16 : Value) (g17 : Value) (g18 : Value) (g19 : Value) (hk6 : (0 ≤ k6.toInt ∧ k6.toInt ≤ 4)) (sz : Nat) : Met l yX6_hasBait vX6_hasBait ({ frames := 1, cells := 0, slots := 0, locals := 22 }) (PC (dC, dI) [.ref a0, .int k1] sz [(a0, .inr (4, [g2, g3, g4, g5, .int k6, g7, g8, g9, g10, g11, g12, g13, g14, g15, g16, g17, g18, g19]))] []) (va_Qi (S := Unit) (fun (r : Int32) _ => (0 ≤ r.toInt ∧ r.toInt ≤ 1)) (fun _ t => BC (dC, dI) (va_A [(a0, .inr (4, [g2, g3, g4, g5, .int k6, g7, g8, g9, g10, g11, g12, g13, g14, g15, g16, g17, g18, g19]))] sz) [(a0, .inr (4, [g2, g3, g4, g5, .int k6, g7, g8, g9, g10, g11, g12, g13, g14, g15, g16, g17, g18, g19]))] [] t) (va_A [(a0, .inr (4, [g2, g3, g4, g5, .int k6, g7, g8, g9, g10, g11, g12, g13, g14, g15, g16, g17, g18, g19]))] sz)) 0 0 (va_A [(a0, .inr (4, [g2, g3, g4, g5, .int k6, g7, g8, g9, g10, g11, g12, g13, g14, g15, g16, g17, g18, g19]))] sz) := by
  refine Met.ofW (cc := cX6_hasBait) (maxL := 2) (ret := (some .boolean)) (by decide) rfl ?_
  intro p e s m args below meth c s₁ B hml hv
  obtain ⟨rfl, hsz, hP, hK, hD0, hN⟩ := hv
  have hx := B.exec
  have hb := B.bytes
  have hr := B.returns
  have hts := atoms_spec (ws := vX6_hasBait) B.pre
  have hown : s.vm.findClass RX6 = some m.cls := findClass_of_methodNamed B.named
  have hlocks := B.notSynchronized
  subst hsz
  have hD := hD0.self (sz := s.heap.size)
  generalize hAe : va_A [(a0, .inr (4, [g2, g3, g4, g5, .int k6, g7, g8, g9, g10, g11, g12, g13, g14, g15, g16, g17, g18, g19]))] s.heap.size = A at hD ⊢
  have hA : ∀ q : Nat, s.heap.size ≤ q → A q := fun q h => by rw [← hAe]; exact Or.inr h
  have hS : va_S A s.heap s.heap [] := va_S.rf
  have hP : va_P (dC, dI) vwCl [(a0, .inr (4, [g2, g3, g4, g5, .int k6, g7, g8, g9, g10, g11, g12, g13, g14, g15, g16, g17, g18, g19]))] s.heap := hP
  have hl := lv_entry ([.ref a0, .int k1]) (n := 2) (Nat.le_of_ble_eq_true rfl)
  rw [lg_entry_eq]
  generalize (lg_sl ([.ref a0, .int k1]) ++ List.replicate (2 - (lg_sl ([.ref a0, .int k1])).length) Slot.unset).toArray = ls at hl ⊢
  have hl : lv_has ls 2 [(0, .ref a0), (1, .int k1)] := hl
  refine lv_iload_n hx hb dX6_hasBait_0 rfl (lv_at hl 1 rfl) ?_
  refine lv_iconst (v := 0) hx hb dX6_hasBait_1 (by decide) ?_
  refine lv_aload_n hx hb dX6_hasBait_2 rfl (lv_at hl 0 rfl) ?_
  refine va_get (D := (dC, dI)) (ci := 4) (v := .int k6) (C := RX6) (T := TX6) (N := 18) hx hb hts iX6_hasBait_X6 hown hK hP 0 rfl rfl 4 (by decide) (hts (.fieldLink RX6 24 "HookPier$Plan" "baits" "I") (List.mem_of_getElem? (i := 1) rfl)) (fun _ h9 => h9) rfl dX6_hasBait_3 ?_
  refine lv_iconst (v := 1) hx hb dX6_hasBait_6 (by decide) ?_
  refine lv_isub hx hb dX6_hasBait_7 ?_
  refine lv_topi (fun z1 ez1 => ?_)
  have tz1 : z1.toInt = k6.toInt - 1 := by rw [ez1]; rw [isub_t (by first | omega | (simp only [ltv_0, ltv_1]; omega)) (by first | omega | (simp only [ltv_0, ltv_1]; omega))]; first | done | (simp only [ltv_0, ltv_1])
  refine cl_i (wc := []) (wr := [(a0, .inr (4, [g2, g3, g4, g5, .int k6, g7, g8, g9, g10, g11, g12, g13, g14, g15, g16, g17, g18, g19]))]) (va_runSN (As := [.int k1, .int 0, .int z1]) (rest := []) ⟨hx, hb, hml, hown, hts⟩ (kX10_within l dC dI k1 0 z1  s.heap.size) ⟨va_cnB 3 hts gX6_hasBait_0 rfl rfl rfl (hN.1 (.methodLinkNest RX6 68 yX10_within "HookPier") (List.mem_of_getElem? (i := 10) rfl)) (hts (.initialized RX10) (List.mem_of_getElem? (i := 3) rfl)) (by decide +kernel) ⟨Nat.le_of_ble_eq_true rfl, Nat.le_of_ble_eq_true rfl⟩, (hts (.static yX10_within) (List.mem_of_getElem? (i := 4) rfl)), trivial⟩ (PS (hP.sub (ws' := []) [] rfl) (hK.sub (tys' := []) [] rfl) (hD.sub (ws' := []) [] (by decide) rfl) hN) rfl rfl hl.1 rfl (lv_room (Nat.le_of_ble_eq_true rfl)) dX6_hasBait_8 ⟨Nat.le_of_ble_eq_true rfl, Nat.le_of_ble_eq_true rfl⟩) hP hD hK hS hA [] [0] rfl rfl (by decide) (by decide) (fun z2 _u H locs hw hP hD hK hS => ?_)
  have b3 := hw
  have hP : va_P (dC, dI) vwCl [(a0, .inr (4, [g2, g3, g4, g5, .int k6, g7, g8, g9, g10, g11, g12, g13, g14, g15, g16, g17, g18, g19]))] H := hP
  have hD : va_D A [(a0, .inr (4, [g2, g3, g4, g5, .int k6, g7, g8, g9, g10, g11, g12, g13, g14, g15, g16, g17, g18, g19]))] := hD
  have hK : va_K (dC, dI) vwCl [] s := hK
  have hP9 := hP.sub (ws' := [(a0, .inr (4, [g2, g3, g4, g5, .int k6, g7, g8, g9, g10, g11, g12, g13, g14, g15, g16, g17, g18, g19]))]) [0] rfl
  have hD9 := hD.sub (ws' := [(a0, .inr (4, [g2, g3, g4, g5, .int k6, g7, g8, g9, g10, g11, g12, g13, g14, g15, g16, g17, g18, g19]))]) [0] (by decide) rfl
  have hK9 := hK.sub (tys' := []) [] rfl
  exact W.zret (v := z2) hx hb hr (narz (by first | trivial | omega | (simp only [ltv_0]; omega))) (fun t ht hW => ⟨⟨z2, (), rfl, (by first | trivial | omega | (simp only [ltv_0]; omega)), by rw [ht]; exact hP9, va_K.moved hW.alike hK9, hD9⟩, hS.F ht⟩) hS.2.2 dX6_hasBait_11
theorem dX6_hasQuestion_0 : decode cX6_hasQuestion 0 = .ok (.aload_n 0, 1) := by decide +kernel
theorem dX6_hasQuestion_1 : decode cX6_hasQuestion 1 = .ok (.iload_n 1, 1) := by decide +kernel
theorem dX6_hasQuestion_11 : decode cX6_hasQuestion 11 = .ok (.iload_n 1, 1) := by decide +kernel
theorem dX6_hasQuestion_12 : decode cX6_hasQuestion 12 = .ok (.invokestatic 80, 3) := by decide +kernel
theorem dX6_hasQuestion_15 : decode cX6_hasQuestion 15 = .ok (.iconst 1, 1) := by decide +kernel
theorem dX6_hasQuestion_16 : decode cX6_hasQuestion 16 = .ok (.aload_n 0, 1) := by decide +kernel
theorem dX6_hasQuestion_17 : decode cX6_hasQuestion 17 = .ok (.getfield 15, 3) := by decide +kernel
theorem dX6_hasQuestion_2 : decode cX6_hasQuestion 2 = .ok (.invokestatic 72, 3) := by decide +kernel
theorem dX6_hasQuestion_20 : decode cX6_hasQuestion 20 = .ok (.invokestatic 68, 3) := by decide +kernel
theorem dX6_hasQuestion_23 : decode cX6_hasQuestion 23 = .ok (.ifCond .eq 18, 3) := by decide +kernel
theorem dX6_hasQuestion_26 : decode cX6_hasQuestion 26 = .ok (.aload_n 0, 1) := by decide +kernel
theorem dX6_hasQuestion_27 : decode cX6_hasQuestion 27 = .ok (.iload_n 1, 1) := by decide +kernel
theorem dX6_hasQuestion_28 : decode cX6_hasQuestion 28 = .ok (.invokestatic 83, 3) := by decide +kernel
theorem dX6_hasQuestion_31 : decode cX6_hasQuestion 31 = .ok (.invokevirtual 86, 3) := by decide +kernel
theorem dX6_hasQuestion_34 : decode cX6_hasQuestion 34 = .ok (.ifCond .eq 7, 3) := by decide +kernel
theorem dX6_hasQuestion_37 : decode cX6_hasQuestion 37 = .ok (.iconst 1, 1) := by decide +kernel
theorem dX6_hasQuestion_38 : decode cX6_hasQuestion 38 = .ok (.goto 4, 3) := by decide +kernel
theorem dX6_hasQuestion_41 : decode cX6_hasQuestion 41 = .ok (.iconst 0, 1) := by decide +kernel
theorem dX6_hasQuestion_42 : decode cX6_hasQuestion 42 = .ok (.ireturn, 1) := by decide +kernel
theorem dX6_hasQuestion_5 : decode cX6_hasQuestion 5 = .ok (.invokevirtual 76, 3) := by decide +kernel
theorem dX6_hasQuestion_8 : decode cX6_hasQuestion 8 = .ok (.ifCond .eq 33, 3) := by decide +kernel
def vX6_hasQuestion : List Cond := .code yX6_hasQuestion cX6_hasQuestion 2 (some .boolean) :: ([.code yX10_spotOf cX10_spotOf 1 (some .int), .initialized RX10, .static yX10_spotOf, .methodLink RX6 76 yX6_hasSpot, .instanceMethod yX6_hasSpot, .selects RX6 yX6_hasSpot yX6_hasSpot, .initialized RX6, .code yX6_hasSpot cX6_hasSpot 2 (some .boolean), .fieldLink RX6 9 "HookPier$Plan" "spots" "I", .code yX10_within cX10_within 3 (some .boolean), .static yX10_within, .code yX10_fathomsOf cX10_fathomsOf 1 (some .int), .static yX10_fathomsOf, .fieldLink RX6 15 "HookPier$Plan" "deep" "I", .code yX10_baitOf cX10_baitOf 1 (some .int), .static yX10_baitOf, .methodLink RX6 86 yX6_hasBait, .instanceMethod yX6_hasBait, .selects RX6 yX6_hasBait yX6_hasBait, .code yX6_hasBait cX6_hasBait 2 (some .boolean), .fieldLink RX6 24 "HookPier$Plan" "baits" "I"] ++ wsX60)
theorem iX6_hasQuestion_X6 : ∀ w ∈ wsX60, w ∈ vX6_hasQuestion := fun _ h => List.mem_cons_of_mem _ (List.mem_append_right _ h)
set_option maxRecDepth 20000 in
theorem gX6_hasQuestion_0 : GoodIn vX6_hasQuestion vX10_spotOf := (goodIn_r (.code yX10_spotOf cX10_spotOf 1 (some .int) :: []) [1] (by decide +kernel) (by decide +kernel) : GoodIn vX6_hasQuestion (.code yX10_spotOf cX10_spotOf 1 (some .int) :: []))
set_option maxRecDepth 20000 in
theorem gX6_hasQuestion_1 : GoodIn vX6_hasQuestion (wsV RX6 76 RX6 yX6_hasSpot vX6_hasSpot) := goodIn_app (goodIn_r [.methodLink RX6 76 yX6_hasSpot, .instanceMethod yX6_hasSpot, .selects RX6 yX6_hasSpot yX6_hasSpot, .initialized RX6] [4, 5, 6, 7] (by decide +kernel) (by decide +kernel)) (goodIn_ca (goodIn_r (.code yX6_hasSpot cX6_hasSpot 2 (some .boolean) :: [.fieldLink RX6 9 "HookPier$Plan" "spots" "I", .code yX10_within cX10_within 3 (some .boolean), .initialized RX10, .static yX10_within]) [8, 9, 10, 2, 11] (by decide +kernel) (by decide +kernel) : GoodIn vX6_hasQuestion (.code yX6_hasSpot cX6_hasSpot 2 (some .boolean) :: [.fieldLink RX6 9 "HookPier$Plan" "spots" "I", .code yX10_within cX10_within 3 (some .boolean), .initialized RX10, .static yX10_within])) (goodIn_sub iX6_hasQuestion_X6 (by decide +kernel)))
set_option maxRecDepth 20000 in
theorem gX6_hasQuestion_2 : GoodIn vX6_hasQuestion vX10_fathomsOf := (goodIn_r (.code yX10_fathomsOf cX10_fathomsOf 1 (some .int) :: []) [12] (by decide +kernel) (by decide +kernel) : GoodIn vX6_hasQuestion (.code yX10_fathomsOf cX10_fathomsOf 1 (some .int) :: []))
set_option maxRecDepth 20000 in
theorem gX6_hasQuestion_3 : GoodIn vX6_hasQuestion vX10_within := (goodIn_r (.code yX10_within cX10_within 3 (some .boolean) :: []) [10] (by decide +kernel) (by decide +kernel) : GoodIn vX6_hasQuestion (.code yX10_within cX10_within 3 (some .boolean) :: []))
set_option maxRecDepth 20000 in
theorem gX6_hasQuestion_4 : GoodIn vX6_hasQuestion vX10_baitOf := (goodIn_r (.code yX10_baitOf cX10_baitOf 1 (some .int) :: []) [15] (by decide +kernel) (by decide +kernel) : GoodIn vX6_hasQuestion (.code yX10_baitOf cX10_baitOf 1 (some .int) :: []))
set_option maxRecDepth 20000 in
theorem gX6_hasQuestion_5 : GoodIn vX6_hasQuestion (wsV RX6 86 RX6 yX6_hasBait vX6_hasBait) := goodIn_app (goodIn_r [.methodLink RX6 86 yX6_hasBait, .instanceMethod yX6_hasBait, .selects RX6 yX6_hasBait yX6_hasBait, .initialized RX6] [17, 18, 19, 7] (by decide +kernel) (by decide +kernel)) (goodIn_ca (goodIn_r (.code yX6_hasBait cX6_hasBait 2 (some .boolean) :: [.fieldLink RX6 24 "HookPier$Plan" "baits" "I", .code yX10_within cX10_within 3 (some .boolean), .initialized RX10, .static yX10_within]) [20, 21, 10, 2, 11] (by decide +kernel) (by decide +kernel) : GoodIn vX6_hasQuestion (.code yX6_hasBait cX6_hasBait 2 (some .boolean) :: [.fieldLink RX6 24 "HookPier$Plan" "baits" "I", .code yX10_within cX10_within 3 (some .boolean), .initialized RX10, .static yX10_within])) (goodIn_sub iX6_hasQuestion_X6 (by decide +kernel)))
set_option maxHeartbeats 2000000 in
set_option maxRecDepth 100000 in
theorem kX6_hasQuestion (l : Launch) (dC : Nat → ClassId) (dI : Nat → Nat → Nat) (a0 : Nat) (k1 : Int32) (k2 : Int32) (k3 : Int32) (g4 : Value) (g5 : Value) (k6 : Int32) (g7 : Value) (g8 : Value) (g9 : Value) (g10 : Value) (g11 : Value) (g12 : Value) (g13 : Value) (g14 : Value) (g15 : Value) (g16 : Value) (g17 : Value) (g18 : Value) (g19 : Value) (hk2 : (0 ≤ k2.toInt ∧ k2.toInt ≤ 8)) (hk3 : (0 ≤ k3.toInt ∧ k3.toInt ≤ 9)) (hk6 : (0 ≤ k6.toInt ∧ k6.toInt ≤ 4)) (sz : Nat) : Met l yX6_hasQuestion vX6_hasQuestion ({ frames := 2, cells := 0, slots := 0, locals := 43 }) (PC (dC, dI) [.ref a0, .int k1] sz [(a0, .inr (4, [.int k2, .int k3, g4, g5, .int k6, g7, g8, g9, g10, g11, g12, g13, g14, g15, g16, g17, g18, g19]))] []) (va_Qi (S := Unit) (fun (r : Int32) _ => (0 ≤ r.toInt ∧ r.toInt ≤ 1)) (fun _ t => BC (dC, dI) (va_A [(a0, .inr (4, [.int k2, .int k3, g4, g5, .int k6, g7, g8, g9, g10, g11, g12, g13, g14, g15, g16, g17, g18, g19]))] sz) [(a0, .inr (4, [.int k2, .int k3, g4, g5, .int k6, g7, g8, g9, g10, g11, g12, g13, g14, g15, g16, g17, g18, g19]))] [] t) (va_A [(a0, .inr (4, [.int k2, .int k3, g4, g5, .int k6, g7, g8, g9, g10, g11, g12, g13, g14, g15, g16, g17, g18, g19]))] sz)) 0 0 (va_A [(a0, .inr (4, [.int k2, .int k3, g4, g5, .int k6, g7, g8, g9, g10, g11, g12, g13, g14, g15, g16, g17, g18, g19]))] sz) := by
  refine Met.ofW (cc := cX6_hasQuestion) (maxL := 2) (ret := (some .boolean)) (by decide) rfl ?_
  intro p e s m args below meth c s₁ B hml hv
  obtain ⟨rfl, hsz, hP, hK, hD0, hN⟩ := hv
  have hx := B.exec
  have hb := B.bytes
  have hr := B.returns
  have hts := atoms_spec (ws := vX6_hasQuestion) B.pre
  have hown : s.vm.findClass RX6 = some m.cls := findClass_of_methodNamed B.named
  have hlocks := B.notSynchronized
  subst hsz
  have hD := hD0.self (sz := s.heap.size)
  generalize hAe : va_A [(a0, .inr (4, [.int k2, .int k3, g4, g5, .int k6, g7, g8, g9, g10, g11, g12, g13, g14, g15, g16, g17, g18, g19]))] s.heap.size = A at hD ⊢
  have hA : ∀ q : Nat, s.heap.size ≤ q → A q := fun q h => by rw [← hAe]; exact Or.inr h
  have hS : va_S A s.heap s.heap [] := va_S.rf
  have hP : va_P (dC, dI) vwCl [(a0, .inr (4, [.int k2, .int k3, g4, g5, .int k6, g7, g8, g9, g10, g11, g12, g13, g14, g15, g16, g17, g18, g19]))] s.heap := hP
  have hl := lv_entry ([.ref a0, .int k1]) (n := 2) (Nat.le_of_ble_eq_true rfl)
  rw [lg_entry_eq]
  generalize (lg_sl ([.ref a0, .int k1]) ++ List.replicate (2 - (lg_sl ([.ref a0, .int k1])).length) Slot.unset).toArray = ls at hl ⊢
  have hl : lv_has ls 2 [(0, .ref a0), (1, .int k1)] := hl
  refine lv_aload_n hx hb dX6_hasQuestion_0 rfl (lv_at hl 0 rfl) ?_
  refine lv_iload_n hx hb dX6_hasQuestion_1 rfl (lv_at hl 1 rfl) ?_
  refine cl_i (wc := []) (wr := [(a0, .inr (4, [.int k2, .int k3, g4, g5, .int k6, g7, g8, g9, g10, g11, g12, g13, g14, g15, g16, g17, g18, g19]))]) (va_runSN (As := [.int k1]) (rest := [.ref a0]) ⟨hx, hb, hml, hown, hts⟩ (kX10_spotOf l dC dI k1  s.heap.size) ⟨va_cnB 1 hts gX6_hasQuestion_0 rfl rfl rfl (hN.1 (.methodLinkNest RX6 72 yX10_spotOf "HookPier") (List.mem_of_getElem? (i := 12) rfl)) (hts (.initialized RX10) (List.mem_of_getElem? (i := 2) rfl)) (by decide +kernel) ⟨Nat.le_of_ble_eq_true rfl, Nat.le_of_ble_eq_true rfl⟩, (hts (.static yX10_spotOf) (List.mem_of_getElem? (i := 3) rfl)), trivial⟩ (PS (hP.sub (ws' := []) [] rfl) (hK.sub (tys' := []) [] rfl) (hD.sub (ws' := []) [] (by decide) rfl) hN) rfl rfl hl.1 rfl (lv_room (Nat.le_of_ble_eq_true rfl)) dX6_hasQuestion_2 ⟨Nat.le_of_ble_eq_true rfl, Nat.le_of_ble_eq_true rfl⟩) hP hD hK hS hA [] [0] rfl rfl (by decide) (by decide) (fun z1 _u H locs hw hP hD hK hS => ?_)
  have b2 := hw
  have hP : va_P (dC, dI) vwCl [(a0, .inr (4, [.int k2, .int k3, g4, g5, .int k6, g7, g8, g9, g10, g11, g12, g13, g14, g15, g16, g17, g18, g19]))] H := hP
  have hD : va_D A [(a0, .inr (4, [.int k2, .int k3, g4, g5, .int k6, g7, g8, g9, g10, g11, g12, g13, g14, g15, g16, g17, g18, g19]))] := hD
  have hK : va_K (dC, dI) vwCl [] s := hK
  refine cl_i (wc := [(a0, .inr (4, [.int k2, .int k3, g4, g5, .int k6, g7, g8, g9, g10, g11, g12, g13, g14, g15, g16, g17, g18, g19]))]) (wr := []) (va_runV (As := [.int z1]) (rest := []) ⟨hx, hb, hml, hown, hts⟩ (kX6_hasSpot l dC dI a0 z1 k2 (.int k3) (g4) (g5) (.int k6) (g7) (g8) (g9) (g10) (g11) (g12) (g13) (g14) (g15) (g16) (g17) (g18) (g19) (by first | omega | (simp only [ltv_0]; omega)) H.size) (cwV 1 hts gX6_hasQuestion_1 rfl rfl rfl (by decide +kernel) ⟨Nat.le_of_ble_eq_true rfl, Nat.le_of_ble_eq_true rfl⟩) (PV (hP.sub (ws' := [(a0, .inr (4, [.int k2, .int k3, g4, g5, .int k6, g7, g8, g9, g10, g11, g12, g13, g14, g15, g16, g17, g18, g19]))]) [0] rfl) (hK.sub (tys' := []) [] rfl) (hD.sub (ws' := [(a0, .inr (4, [.int k2, .int k3, g4, g5, .int k6, g7, g8, g9, g10, g11, g12, g13, g14, g15, g16, g17, g18, g19]))]) [0] (by decide) rfl) hN 0 rfl rfl) rfl rfl hl.1 rfl (lv_room (Nat.le_of_ble_eq_true rfl)) dX6_hasQuestion_5 ⟨Nat.le_of_ble_eq_true rfl, Nat.le_of_ble_eq_true rfl⟩) hP hD hK hS hA [0] [] rfl rfl (by decide) (by decide) (fun z3 _u H locs hw hP hD hK hS => ?_)
  have b4 := hw
  have hP : va_P (dC, dI) vwCl [(a0, .inr (4, [.int k2, .int k3, g4, g5, .int k6, g7, g8, g9, g10, g11, g12, g13, g14, g15, g16, g17, g18, g19]))] H := hP
  have hD : va_D A [(a0, .inr (4, [.int k2, .int k3, g4, g5, .int k6, g7, g8, g9, g10, g11, g12, g13, g14, g15, g16, g17, g18, g19]))] := hD
  have hK : va_K (dC, dI) vwCl [] s := hK
  refine lv_if_eq (tgt := 41) hx hb dX6_hasQuestion_8 (by decide) (fun c5 => ?_) (fun c5 => ?_)
  · simp only [fa_lt, fa_le, fa_eq, ltv_0] at c5
    refine lv_iconst (v := 0) hx hb dX6_hasQuestion_41 (by decide) ?_
    have hP9 := hP.sub (ws' := [(a0, .inr (4, [.int k2, .int k3, g4, g5, .int k6, g7, g8, g9, g10, g11, g12, g13, g14, g15, g16, g17, g18, g19]))]) [0] rfl
    have hD9 := hD.sub (ws' := [(a0, .inr (4, [.int k2, .int k3, g4, g5, .int k6, g7, g8, g9, g10, g11, g12, g13, g14, g15, g16, g17, g18, g19]))]) [0] (by decide) rfl
    have hK9 := hK.sub (tys' := []) [] rfl
    exact W.zret (v := 0) hx hb hr rfl (fun t ht hW => ⟨⟨0, (), rfl, (by first | trivial | omega | (simp only [ltv_0]; omega)), by rw [ht]; exact hP9, va_K.moved hW.alike hK9, hD9⟩, hS.F ht⟩) hS.2.2 dX6_hasQuestion_42
  · simp only [fa_lt, fa_le, fa_eq, ltv_0] at c5
    refine lv_iload_n hx hb dX6_hasQuestion_11 rfl (lv_at hl 1 rfl) ?_
    refine cl_i (wc := []) (wr := [(a0, .inr (4, [.int k2, .int k3, g4, g5, .int k6, g7, g8, g9, g10, g11, g12, g13, g14, g15, g16, g17, g18, g19]))]) (va_runSN (As := [.int k1]) (rest := []) ⟨hx, hb, hml, hown, hts⟩ (kX10_fathomsOf l dC dI k1  H.size) ⟨va_cnB 1 hts gX6_hasQuestion_2 rfl rfl rfl (hN.1 (.methodLinkNest RX6 80 yX10_fathomsOf "HookPier") (List.mem_of_getElem? (i := 14) rfl)) (hts (.initialized RX10) (List.mem_of_getElem? (i := 2) rfl)) (by decide +kernel) ⟨Nat.le_of_ble_eq_true rfl, Nat.le_of_ble_eq_true rfl⟩, (hts (.static yX10_fathomsOf) (List.mem_of_getElem? (i := 13) rfl)), trivial⟩ (PS (hP.sub (ws' := []) [] rfl) (hK.sub (tys' := []) [] rfl) (hD.sub (ws' := []) [] (by decide) rfl) hN) rfl rfl hl.1 rfl (lv_room (Nat.le_of_ble_eq_true rfl)) dX6_hasQuestion_12 ⟨Nat.le_of_ble_eq_true rfl, Nat.le_of_ble_eq_true rfl⟩) hP hD hK hS hA [] [0] rfl rfl (by decide) (by decide) (fun z6 _u H locs hw hP hD hK hS => ?_)
    have b7 := hw
    have hP : va_P (dC, dI) vwCl [(a0, .inr (4, [.int k2, .int k3, g4, g5, .int k6, g7, g8, g9, g10, g11, g12, g13, g14, g15, g16, g17, g18, g19]))] H := hP
    have hD : va_D A [(a0, .inr (4, [.int k2, .int k3, g4, g5, .int k6, g7, g8, g9, g10, g11, g12, g13, g14, g15, g16, g17, g18, g19]))] := hD
    have hK : va_K (dC, dI) vwCl [] s := hK
    refine lv_iconst (v := 1) hx hb dX6_hasQuestion_15 (by decide) ?_
    refine lv_aload_n hx hb dX6_hasQuestion_16 rfl (lv_at hl 0 rfl) ?_
    refine va_get (D := (dC, dI)) (ci := 4) (v := .int k3) (C := RX6) (T := TX6) (N := 18) hx hb hts iX6_hasQuestion_X6 hown hK hP 0 rfl rfl 1 (by decide) (hts (.fieldLink RX6 15 "HookPier$Plan" "deep" "I") (List.mem_of_getElem? (i := 14) rfl)) (fun _ h9 => h9) rfl dX6_hasQuestion_17 ?_
    refine cl_i (wc := []) (wr := [(a0, .inr (4, [.int k2, .int k3, g4, g5, .int k6, g7, g8, g9, g10, g11, g12, g13, g14, g15, g16, g17, g18, g19]))]) (va_runSN (As := [.int z6, .int 1, .int k3]) (rest := []) ⟨hx, hb, hml, hown, hts⟩ (kX10_within l dC dI z6 1 k3  H.size) ⟨va_cnB 3 hts gX6_hasQuestion_3 rfl rfl rfl (hN.1 (.methodLinkNest RX6 68 yX10_within "HookPier") (List.mem_of_getElem? (i := 10) rfl)) (hts (.initialized RX10) (List.mem_of_getElem? (i := 2) rfl)) (by decide +kernel) ⟨Nat.le_of_ble_eq_true rfl, Nat.le_of_ble_eq_true rfl⟩, (hts (.static yX10_within) (List.mem_of_getElem? (i := 11) rfl)), trivial⟩ (PS (hP.sub (ws' := []) [] rfl) (hK.sub (tys' := []) [] rfl) (hD.sub (ws' := []) [] (by decide) rfl) hN) rfl rfl hl.1 rfl (lv_room (Nat.le_of_ble_eq_true rfl)) dX6_hasQuestion_20 ⟨Nat.le_of_ble_eq_true rfl, Nat.le_of_ble_eq_true rfl⟩) hP hD hK hS hA [] [0] rfl rfl (by decide) (by decide) (fun z8 _u H locs hw hP hD hK hS => ?_)
    have b9 := hw
    have hP : va_P (dC, dI) vwCl [(a0, .inr (4, [.int k2, .int k3, g4, g5, .int k6, g7, g8, g9, g10, g11, g12, g13, g14, g15, g16, g17, g18, g19]))] H := hP
    have hD : va_D A [(a0, .inr (4, [.int k2, .int k3, g4, g5, .int k6, g7, g8, g9, g10, g11, g12, g13, g14, g15, g16, g17, g18, g19]))] := hD
    have hK : va_K (dC, dI) vwCl [] s := hK
    refine lv_if_eq (tgt := 41) hx hb dX6_hasQuestion_23 (by decide) (fun c10 => ?_) (fun c10 => ?_)
    · simp only [fa_lt, fa_le, fa_eq, ltv_0] at c10
      refine lv_iconst (v := 0) hx hb dX6_hasQuestion_41 (by decide) ?_
      have hP9 := hP.sub (ws' := [(a0, .inr (4, [.int k2, .int k3, g4, g5, .int k6, g7, g8, g9, g10, g11, g12, g13, g14, g15, g16, g17, g18, g19]))]) [0] rfl
      have hD9 := hD.sub (ws' := [(a0, .inr (4, [.int k2, .int k3, g4, g5, .int k6, g7, g8, g9, g10, g11, g12, g13, g14, g15, g16, g17, g18, g19]))]) [0] (by decide) rfl
      have hK9 := hK.sub (tys' := []) [] rfl
      exact W.zret (v := 0) hx hb hr rfl (fun t ht hW => ⟨⟨0, (), rfl, (by first | trivial | omega | (simp only [ltv_0]; omega)), by rw [ht]; exact hP9, va_K.moved hW.alike hK9, hD9⟩, hS.F ht⟩) hS.2.2 dX6_hasQuestion_42
    · simp only [fa_lt, fa_le, fa_eq, ltv_0] at c10
      refine lv_aload_n hx hb dX6_hasQuestion_26 rfl (lv_at hl 0 rfl) ?_
      refine lv_iload_n hx hb dX6_hasQuestion_27 rfl (lv_at hl 1 rfl) ?_
      refine cl_i (wc := []) (wr := [(a0, .inr (4, [.int k2, .int k3, g4, g5, .int k6, g7, g8, g9, g10, g11, g12, g13, g14, g15, g16, g17, g18, g19]))]) (va_runSN (As := [.int k1]) (rest := [.ref a0]) ⟨hx, hb, hml, hown, hts⟩ (kX10_baitOf l dC dI k1  H.size) ⟨va_cnB 1 hts gX6_hasQuestion_4 rfl rfl rfl (hN.1 (.methodLinkNest RX6 83 yX10_baitOf "HookPier") (List.mem_of_getElem? (i := 13) rfl)) (hts (.initialized RX10) (List.mem_of_getElem? (i := 2) rfl)) (by decide +kernel) ⟨Nat.le_of_ble_eq_true rfl, Nat.le_of_ble_eq_true rfl⟩, (hts (.static yX10_baitOf) (List.mem_of_getElem? (i := 16) rfl)), trivial⟩ (PS (hP.sub (ws' := []) [] rfl) (hK.sub (tys' := []) [] rfl) (hD.sub (ws' := []) [] (by decide) rfl) hN) rfl rfl hl.1 rfl (lv_room (Nat.le_of_ble_eq_true rfl)) dX6_hasQuestion_28 ⟨Nat.le_of_ble_eq_true rfl, Nat.le_of_ble_eq_true rfl⟩) hP hD hK hS hA [] [0] rfl rfl (by decide) (by decide) (fun z11 _u H locs hw hP hD hK hS => ?_)
      have b12 := hw
      have hP : va_P (dC, dI) vwCl [(a0, .inr (4, [.int k2, .int k3, g4, g5, .int k6, g7, g8, g9, g10, g11, g12, g13, g14, g15, g16, g17, g18, g19]))] H := hP
      have hD : va_D A [(a0, .inr (4, [.int k2, .int k3, g4, g5, .int k6, g7, g8, g9, g10, g11, g12, g13, g14, g15, g16, g17, g18, g19]))] := hD
      have hK : va_K (dC, dI) vwCl [] s := hK
      refine cl_i (wc := [(a0, .inr (4, [.int k2, .int k3, g4, g5, .int k6, g7, g8, g9, g10, g11, g12, g13, g14, g15, g16, g17, g18, g19]))]) (wr := []) (va_runV (As := [.int z11]) (rest := []) ⟨hx, hb, hml, hown, hts⟩ (kX6_hasBait l dC dI a0 z11 (.int k2) (.int k3) (g4) (g5) k6 (g7) (g8) (g9) (g10) (g11) (g12) (g13) (g14) (g15) (g16) (g17) (g18) (g19) (by first | omega | (simp only [ltv_0]; omega)) H.size) (cwV 1 hts gX6_hasQuestion_5 rfl rfl rfl (by decide +kernel) ⟨Nat.le_of_ble_eq_true rfl, Nat.le_of_ble_eq_true rfl⟩) (PV (hP.sub (ws' := [(a0, .inr (4, [.int k2, .int k3, g4, g5, .int k6, g7, g8, g9, g10, g11, g12, g13, g14, g15, g16, g17, g18, g19]))]) [0] rfl) (hK.sub (tys' := []) [] rfl) (hD.sub (ws' := [(a0, .inr (4, [.int k2, .int k3, g4, g5, .int k6, g7, g8, g9, g10, g11, g12, g13, g14, g15, g16, g17, g18, g19]))]) [0] (by decide) rfl) hN 0 rfl rfl) rfl rfl hl.1 rfl (lv_room (Nat.le_of_ble_eq_true rfl)) dX6_hasQuestion_31 ⟨Nat.le_of_ble_eq_true rfl, Nat.le_of_ble_eq_true rfl⟩) hP hD hK hS hA [0] [] rfl rfl (by decide) (by decide) (fun z13 _u H locs hw hP hD hK hS => ?_)
      have b14 := hw
      have hP : va_P (dC, dI) vwCl [(a0, .inr (4, [.int k2, .int k3, g4, g5, .int k6, g7, g8, g9, g10, g11, g12, g13, g14, g15, g16, g17, g18, g19]))] H := hP
      have hD : va_D A [(a0, .inr (4, [.int k2, .int k3, g4, g5, .int k6, g7, g8, g9, g10, g11, g12, g13, g14, g15, g16, g17, g18, g19]))] := hD
      have hK : va_K (dC, dI) vwCl [] s := hK
      refine lv_if_eq (tgt := 41) hx hb dX6_hasQuestion_34 (by decide) (fun c15 => ?_) (fun c15 => ?_)
      · simp only [fa_lt, fa_le, fa_eq, ltv_0] at c15
        refine lv_iconst (v := 0) hx hb dX6_hasQuestion_41 (by decide) ?_
        have hP9 := hP.sub (ws' := [(a0, .inr (4, [.int k2, .int k3, g4, g5, .int k6, g7, g8, g9, g10, g11, g12, g13, g14, g15, g16, g17, g18, g19]))]) [0] rfl
        have hD9 := hD.sub (ws' := [(a0, .inr (4, [.int k2, .int k3, g4, g5, .int k6, g7, g8, g9, g10, g11, g12, g13, g14, g15, g16, g17, g18, g19]))]) [0] (by decide) rfl
        have hK9 := hK.sub (tys' := []) [] rfl
        exact W.zret (v := 0) hx hb hr rfl (fun t ht hW => ⟨⟨0, (), rfl, (by first | trivial | omega | (simp only [ltv_0]; omega)), by rw [ht]; exact hP9, va_K.moved hW.alike hK9, hD9⟩, hS.F ht⟩) hS.2.2 dX6_hasQuestion_42
      · simp only [fa_lt, fa_le, fa_eq, ltv_0] at c15
        refine lv_iconst (v := 1) hx hb dX6_hasQuestion_37 (by decide) ?_
        refine lv_goto (tgt := 42) hx hb dX6_hasQuestion_38 (by decide) ?_
        have hP9 := hP.sub (ws' := [(a0, .inr (4, [.int k2, .int k3, g4, g5, .int k6, g7, g8, g9, g10, g11, g12, g13, g14, g15, g16, g17, g18, g19]))]) [0] rfl
        have hD9 := hD.sub (ws' := [(a0, .inr (4, [.int k2, .int k3, g4, g5, .int k6, g7, g8, g9, g10, g11, g12, g13, g14, g15, g16, g17, g18, g19]))]) [0] (by decide) rfl
        have hK9 := hK.sub (tys' := []) [] rfl
        exact W.zret (v := 1) hx hb hr rfl (fun t ht hW => ⟨⟨1, (), rfl, (by first | trivial | omega | (simp only [ltv_0, ltv_1]; omega)), by rw [ht]; exact hP9, va_K.moved hW.alike hK9, hD9⟩, hS.F ht⟩) hS.2.2 dX6_hasQuestion_42
theorem dX6_isClose_0 : decode cX6_isClose 0 = .ok (.iload_n 1, 1) := by decide +kernel
theorem dX6_isClose_1 : decode cX6_isClose 1 = .ok (.aload_n 0, 1) := by decide +kernel
theorem dX6_isClose_12 : decode cX6_isClose 12 = .ok (.ireturn, 1) := by decide +kernel
theorem dX6_isClose_2 : decode cX6_isClose 2 = .ok (.getfield 18, 3) := by decide +kernel
theorem dX6_isClose_5 : decode cX6_isClose 5 = .ok (.aload_n 0, 1) := by decide +kernel
theorem dX6_isClose_6 : decode cX6_isClose 6 = .ok (.getfield 21, 3) := by decide +kernel
theorem dX6_isClose_9 : decode cX6_isClose 9 = .ok (.invokestatic 68, 3) := by decide +kernel
def vX6_isClose : List Cond := .code yX6_isClose cX6_isClose 2 (some .boolean) :: ([.fieldLink RX6 18 "HookPier$Plan" "closeFrom" "I", .fieldLink RX6 21 "HookPier$Plan" "closeTo" "I", .code yX10_within cX10_within 3 (some .boolean), .initialized RX10, .static yX10_within] ++ wsX60)
theorem iX6_isClose_X6 : ∀ w ∈ wsX60, w ∈ vX6_isClose := fun _ h => List.mem_cons_of_mem _ (List.mem_append_right _ h)
set_option maxRecDepth 20000 in
theorem gX6_isClose_0 : GoodIn vX6_isClose vX10_within := (goodIn_r (.code yX10_within cX10_within 3 (some .boolean) :: []) [3] (by decide +kernel) (by decide +kernel) : GoodIn vX6_isClose (.code yX10_within cX10_within 3 (some .boolean) :: []))
set_option maxHeartbeats 2000000 in
set_option maxRecDepth 100000 in
theorem kX6_isClose (l : Launch) (dC : Nat → ClassId) (dI : Nat → Nat → Nat) (a0 : Nat) (k1 : Int32) (g2 : Value) (g3 : Value) (k4 : Int32) (k5 : Int32) (g6 : Value) (g7 : Value) (g8 : Value) (g9 : Value) (g10 : Value) (g11 : Value) (g12 : Value) (g13 : Value) (g14 : Value) (g15 : Value) (g16 : Value) (g17 : Value) (g18 : Value) (g19 : Value) (sz : Nat) : Met l yX6_isClose vX6_isClose ({ frames := 1, cells := 0, slots := 0, locals := 22 }) (PC (dC, dI) [.ref a0, .int k1] sz [(a0, .inr (4, [g2, g3, .int k4, .int k5, g6, g7, g8, g9, g10, g11, g12, g13, g14, g15, g16, g17, g18, g19]))] []) (va_Qi (S := Unit) (fun (r : Int32) _ => (0 ≤ r.toInt ∧ r.toInt ≤ 1)) (fun _ t => BC (dC, dI) (va_A [(a0, .inr (4, [g2, g3, .int k4, .int k5, g6, g7, g8, g9, g10, g11, g12, g13, g14, g15, g16, g17, g18, g19]))] sz) [(a0, .inr (4, [g2, g3, .int k4, .int k5, g6, g7, g8, g9, g10, g11, g12, g13, g14, g15, g16, g17, g18, g19]))] [] t) (va_A [(a0, .inr (4, [g2, g3, .int k4, .int k5, g6, g7, g8, g9, g10, g11, g12, g13, g14, g15, g16, g17, g18, g19]))] sz)) 0 0 (va_A [(a0, .inr (4, [g2, g3, .int k4, .int k5, g6, g7, g8, g9, g10, g11, g12, g13, g14, g15, g16, g17, g18, g19]))] sz) := by
  refine Met.ofW (cc := cX6_isClose) (maxL := 2) (ret := (some .boolean)) (by decide) rfl ?_
  intro p e s m args below meth c s₁ B hml hv
  obtain ⟨rfl, hsz, hP, hK, hD0, hN⟩ := hv
  have hx := B.exec
  have hb := B.bytes
  have hr := B.returns
  have hts := atoms_spec (ws := vX6_isClose) B.pre
  have hown : s.vm.findClass RX6 = some m.cls := findClass_of_methodNamed B.named
  have hlocks := B.notSynchronized
  subst hsz
  have hD := hD0.self (sz := s.heap.size)
  generalize hAe : va_A [(a0, .inr (4, [g2, g3, .int k4, .int k5, g6, g7, g8, g9, g10, g11, g12, g13, g14, g15, g16, g17, g18, g19]))] s.heap.size = A at hD ⊢
  have hA : ∀ q : Nat, s.heap.size ≤ q → A q := fun q h => by rw [← hAe]; exact Or.inr h
  have hS : va_S A s.heap s.heap [] := va_S.rf
  have hP : va_P (dC, dI) vwCl [(a0, .inr (4, [g2, g3, .int k4, .int k5, g6, g7, g8, g9, g10, g11, g12, g13, g14, g15, g16, g17, g18, g19]))] s.heap := hP
  have hl := lv_entry ([.ref a0, .int k1]) (n := 2) (Nat.le_of_ble_eq_true rfl)
  rw [lg_entry_eq]
  generalize (lg_sl ([.ref a0, .int k1]) ++ List.replicate (2 - (lg_sl ([.ref a0, .int k1])).length) Slot.unset).toArray = ls at hl ⊢
  have hl : lv_has ls 2 [(0, .ref a0), (1, .int k1)] := hl
  refine lv_iload_n hx hb dX6_isClose_0 rfl (lv_at hl 1 rfl) ?_
  refine lv_aload_n hx hb dX6_isClose_1 rfl (lv_at hl 0 rfl) ?_
  refine va_get (D := (dC, dI)) (ci := 4) (v := .int k4) (C := RX6) (T := TX6) (N := 18) hx hb hts iX6_isClose_X6 hown hK hP 0 rfl rfl 2 (by decide) (hts (.fieldLink RX6 18 "HookPier$Plan" "closeFrom" "I") (List.mem_of_getElem? (i := 1) rfl)) (fun _ h9 => h9) rfl dX6_isClose_2 ?_
  refine lv_aload_n hx hb dX6_isClose_5 rfl (lv_at hl 0 rfl) ?_
  refine va_get (D := (dC, dI)) (ci := 4) (v := .int k5) (C := RX6) (T := TX6) (N := 18) hx hb hts iX6_isClose_X6 hown hK hP 0 rfl rfl 3 (by decide) (hts (.fieldLink RX6 21 "HookPier$Plan" "closeTo" "I") (List.mem_of_getElem? (i := 2) rfl)) (fun _ h9 => h9) rfl dX6_isClose_6 ?_
  refine cl_i (wc := []) (wr := [(a0, .inr (4, [g2, g3, .int k4, .int k5, g6, g7, g8, g9, g10, g11, g12, g13, g14, g15, g16, g17, g18, g19]))]) (va_runSN (As := [.int k1, .int k4, .int k5]) (rest := []) ⟨hx, hb, hml, hown, hts⟩ (kX10_within l dC dI k1 k4 k5  s.heap.size) ⟨va_cnB 3 hts gX6_isClose_0 rfl rfl rfl (hN.1 (.methodLinkNest RX6 68 yX10_within "HookPier") (List.mem_of_getElem? (i := 10) rfl)) (hts (.initialized RX10) (List.mem_of_getElem? (i := 4) rfl)) (by decide +kernel) ⟨Nat.le_of_ble_eq_true rfl, Nat.le_of_ble_eq_true rfl⟩, (hts (.static yX10_within) (List.mem_of_getElem? (i := 5) rfl)), trivial⟩ (PS (hP.sub (ws' := []) [] rfl) (hK.sub (tys' := []) [] rfl) (hD.sub (ws' := []) [] (by decide) rfl) hN) rfl rfl hl.1 rfl (lv_room (Nat.le_of_ble_eq_true rfl)) dX6_isClose_9 ⟨Nat.le_of_ble_eq_true rfl, Nat.le_of_ble_eq_true rfl⟩) hP hD hK hS hA [] [0] rfl rfl (by decide) (by decide) (fun z1 _u H locs hw hP hD hK hS => ?_)
  have b2 := hw
  have hP : va_P (dC, dI) vwCl [(a0, .inr (4, [g2, g3, .int k4, .int k5, g6, g7, g8, g9, g10, g11, g12, g13, g14, g15, g16, g17, g18, g19]))] H := hP
  have hD : va_D A [(a0, .inr (4, [g2, g3, .int k4, .int k5, g6, g7, g8, g9, g10, g11, g12, g13, g14, g15, g16, g17, g18, g19]))] := hD
  have hK : va_K (dC, dI) vwCl [] s := hK
  have hP9 := hP.sub (ws' := [(a0, .inr (4, [g2, g3, .int k4, .int k5, g6, g7, g8, g9, g10, g11, g12, g13, g14, g15, g16, g17, g18, g19]))]) [0] rfl
  have hD9 := hD.sub (ws' := [(a0, .inr (4, [g2, g3, .int k4, .int k5, g6, g7, g8, g9, g10, g11, g12, g13, g14, g15, g16, g17, g18, g19]))]) [0] (by decide) rfl
  have hK9 := hK.sub (tys' := []) [] rfl
  exact W.zret (v := z1) hx hb hr (narz (by first | trivial | omega | (simp only [ltv_0]; omega))) (fun t ht hW => ⟨⟨z1, (), rfl, (by first | trivial | omega | (simp only [ltv_0]; omega)), by rw [ht]; exact hP9, va_K.moved hW.alike hK9, hD9⟩, hS.F ht⟩) hS.2.2 dX6_isClose_12
theorem dX6_isTangle_0 : decode cX6_isTangle 0 = .ok (.iload_n 2, 1) := by decide +kernel
theorem dX6_isTangle_1 : decode cX6_isTangle 1 = .ok (.iload 4, 2) := by decide +kernel
theorem dX6_isTangle_11 : decode cX6_isTangle 11 = .ok (.iload_n 1, 1) := by decide +kernel
theorem dX6_isTangle_12 : decode cX6_isTangle 12 = .ok (.iaload, 1) := by decide +kernel
theorem dX6_isTangle_13 : decode cX6_isTangle 13 = .ok (.aload_n 0, 1) := by decide +kernel
theorem dX6_isTangle_14 : decode cX6_isTangle 14 = .ok (.getfield 39, 3) := by decide +kernel
theorem dX6_isTangle_17 : decode cX6_isTangle 17 = .ok (.iload_n 3, 1) := by decide +kernel
theorem dX6_isTangle_18 : decode cX6_isTangle 18 = .ok (.iaload, 1) := by decide +kernel
theorem dX6_isTangle_19 : decode cX6_isTangle 19 = .ok (.iadd, 1) := by decide +kernel
theorem dX6_isTangle_20 : decode cX6_isTangle 20 = .ok (.if_icmp .gt 7, 3) := by decide +kernel
theorem dX6_isTangle_23 : decode cX6_isTangle 23 = .ok (.iconst 1, 1) := by decide +kernel
theorem dX6_isTangle_24 : decode cX6_isTangle 24 = .ok (.goto 4, 3) := by decide +kernel
theorem dX6_isTangle_27 : decode cX6_isTangle 27 = .ok (.iconst 0, 1) := by decide +kernel
theorem dX6_isTangle_28 : decode cX6_isTangle 28 = .ok (.ireturn, 1) := by decide +kernel
theorem dX6_isTangle_3 : decode cX6_isTangle 3 = .ok (.isub, 1) := by decide +kernel
theorem dX6_isTangle_4 : decode cX6_isTangle 4 = .ok (.invokestatic 89, 3) := by decide +kernel
theorem dX6_isTangle_7 : decode cX6_isTangle 7 = .ok (.aload_n 0, 1) := by decide +kernel
theorem dX6_isTangle_8 : decode cX6_isTangle 8 = .ok (.getfield 39, 3) := by decide +kernel
def vX6_isTangle : List Cond := .code yX6_isTangle cX6_isTangle 5 (some .boolean) :: ([.methodLink RX6 89 Lib.Math.abs.name, .static Lib.Math.abs.name, .initialized "java/lang/Math", .code Lib.Math.abs.name Lib.Math.abs.code 1 (some .int), .fieldLink RX6 39 "HookPier$Plan" "reach" "[I"] ++ wsX60)
theorem iX6_isTangle_X6 : ∀ w ∈ wsX60, w ∈ vX6_isTangle := fun _ h => List.mem_cons_of_mem _ (List.mem_append_right _ h)
set_option maxHeartbeats 2000000 in
set_option maxRecDepth 100000 in
theorem kX6_isTangle (l : Launch) (dC : Nat → ClassId) (dI : Nat → Nat → Nat) (a0 : Nat) (k1 : Int32) (k2 : Int32) (k3 : Int32) (k4 : Int32) (a5 : Nat) (g6 : Value) (g7 : Value) (g8 : Value) (g9 : Value) (g10 : Value) (g11 : Value) (g12 : Value) (g13 : Value) (g14 : Value) (g15 : Value) (g16 : Value) (g17 : Value) (g18 : Value) (g19 : Value) (g20 : Value) (g21 : Value) (g22 : Value) (cB23 : ClassId) (f24 : Nat → Int32) (hk1 : (0 ≤ k1.toInt ∧ k1.toInt ≤ 4)) (hk3 : (0 ≤ k3.toInt ∧ k3.toInt ≤ 4)) (sz : Nat) : Met l yX6_isTangle vX6_isTangle ({ frames := 1, cells := 0, slots := 0, locals := 21 }) (PC (dC, dI) [.ref a0, .int k1, .int k2, .int k3, .int k4] sz [(a0, .inr (4, [g6, g7, g8, g9, g10, g11, g12, g13, g14, .ref a5, g15, g16, g17, g18, g19, g20, g21, g22])), (a5, .inl (cB23, 5, .inl f24))] [(cB23, .int)]) (va_Qi (S := Unit) (fun (r : Int32) _ => (0 ≤ r.toInt ∧ r.toInt ≤ 1)) (fun _ t => BC (dC, dI) (va_A [(a0, .inr (4, [g6, g7, g8, g9, g10, g11, g12, g13, g14, .ref a5, g15, g16, g17, g18, g19, g20, g21, g22])), (a5, .inl (cB23, 5, .inl f24))] sz) [(a0, .inr (4, [g6, g7, g8, g9, g10, g11, g12, g13, g14, .ref a5, g15, g16, g17, g18, g19, g20, g21, g22])), (a5, .inl (cB23, 5, .inl f24))] [] t) (va_A [(a0, .inr (4, [g6, g7, g8, g9, g10, g11, g12, g13, g14, .ref a5, g15, g16, g17, g18, g19, g20, g21, g22])), (a5, .inl (cB23, 5, .inl f24))] sz)) 0 0 (va_A [(a0, .inr (4, [g6, g7, g8, g9, g10, g11, g12, g13, g14, .ref a5, g15, g16, g17, g18, g19, g20, g21, g22])), (a5, .inl (cB23, 5, .inl f24))] sz) := by
  refine Met.ofW (cc := cX6_isTangle) (maxL := 5) (ret := (some .boolean)) (by decide) rfl ?_
  intro p e s m args below meth c s₁ B hml hv
  obtain ⟨rfl, hsz, hP, hK, hD0, hN⟩ := hv
  have hx := B.exec
  have hb := B.bytes
  have hr := B.returns
  have hts := atoms_spec (ws := vX6_isTangle) B.pre
  have hown : s.vm.findClass RX6 = some m.cls := findClass_of_methodNamed B.named
  have hlocks := B.notSynchronized
  subst hsz
  have hD := hD0.self (sz := s.heap.size)
  generalize hAe : va_A [(a0, .inr (4, [g6, g7, g8, g9, g10, g11, g12, g13, g14, .ref a5, g15, g16, g17, g18, g19, g20, g21, g22])), (a5, .inl (cB23, 5, .inl f24))] s.heap.size = A at hD ⊢
  have hA : ∀ q : Nat, s.heap.size ≤ q → A q := fun q h => by rw [← hAe]; exact Or.inr h
  have hS : va_S A s.heap s.heap [] := va_S.rf
  have hP : va_P (dC, dI) vwCl [(a0, .inr (4, [g6, g7, g8, g9, g10, g11, g12, g13, g14, .ref a5, g15, g16, g17, g18, g19, g20, g21, g22])), (a5, .inl (cB23, 5, .inl f24))] s.heap := hP
  have hl := lv_entry ([.ref a0, .int k1, .int k2, .int k3, .int k4]) (n := 5) (Nat.le_of_ble_eq_true rfl)
  rw [lg_entry_eq]
  generalize (lg_sl ([.ref a0, .int k1, .int k2, .int k3, .int k4]) ++ List.replicate (5 - (lg_sl ([.ref a0, .int k1, .int k2, .int k3, .int k4])).length) Slot.unset).toArray = ls at hl ⊢
  have hl : lv_has ls 5 [(0, .ref a0), (1, .int k1), (2, .int k2), (3, .int k3), (4, .int k4)] := hl
  refine lv_iload_n hx hb dX6_isTangle_0 rfl (lv_at hl 2 rfl) ?_
  refine lv_iload hx hb dX6_isTangle_1 (lv_at hl 4 rfl) ?_
  refine lv_isub hx hb dX6_isTangle_3 ?_
  refine lv_topi (fun z1 ez1 => ?_)
  clear ez1
  refine va_mabs hx hb (by rw [hml]; exact hl.1.symm) hown (hts (.methodLink RX6 89 Lib.Math.abs.name) (List.mem_of_getElem? (i := 1) rfl)) (hts (.static Lib.Math.abs.name) (List.mem_of_getElem? (i := 2) rfl)) (hts (.initialized "java/lang/Math") (List.mem_of_getElem? (i := 3) rfl)) (hts (.code Lib.Math.abs.name Lib.Math.abs.code 1 (some .int)) (List.mem_of_getElem? (i := 4) rfl)) (Nat.le_of_ble_eq_true rfl) (Nat.le_of_ble_eq_true rfl) (Nat.le_of_ble_eq_true rfl) (Nat.le_of_ble_eq_true rfl) dX6_isTangle_4 ?_
  refine lv_topi (fun z2 ez2 => ?_)
  clear ez2
  refine lv_aload_n hx hb dX6_isTangle_7 rfl (lv_at hl 0 rfl) ?_
  refine va_get (D := (dC, dI)) (ci := 4) (v := .ref a5) (C := RX6) (T := TX6) (N := 18) hx hb hts iX6_isTangle_X6 hown hK hP 0 rfl rfl 9 (by decide) (hts (.fieldLink RX6 39 "HookPier$Plan" "reach" "[I") (List.mem_of_getElem? (i := 5) rfl)) (fun _ h9 => h9) rfl dX6_isTangle_8 ?_
  refine lv_iload_n hx hb dX6_isTangle_11 rfl (lv_at hl 1 rfl) ?_
  refine va_iald hx hb hK hP 1 0 rfl rfl (vp_in_iff.mpr (by omega)) dX6_isTangle_12 ?_
  refine lv_topi (fun z3 ez3 => ?_)
  clear ez3
  refine lv_aload_n hx hb dX6_isTangle_13 rfl (lv_at hl 0 rfl) ?_
  refine va_get (D := (dC, dI)) (ci := 4) (v := .ref a5) (C := RX6) (T := TX6) (N := 18) hx hb hts iX6_isTangle_X6 hown hK hP 0 rfl rfl 9 (by decide) (hts (.fieldLink RX6 39 "HookPier$Plan" "reach" "[I") (List.mem_of_getElem? (i := 5) rfl)) (fun _ h9 => h9) rfl dX6_isTangle_14 ?_
  refine lv_iload_n hx hb dX6_isTangle_17 rfl (lv_at hl 3 rfl) ?_
  refine va_iald hx hb hK hP 1 0 rfl rfl (vp_in_iff.mpr (by omega)) dX6_isTangle_18 ?_
  refine lv_topi (fun z4 ez4 => ?_)
  clear ez4
  refine lv_iadd hx hb dX6_isTangle_19 ?_
  refine lv_topi (fun z5 ez5 => ?_)
  clear ez5
  refine lv_icmp_gt (tgt := 27) hx hb dX6_isTangle_20 (by decide) (fun c6 => ?_) (fun c6 => ?_)
  · simp only [fa_lt, fa_le, fa_eq, ltv_0] at c6
    refine lv_iconst (v := 0) hx hb dX6_isTangle_27 (by decide) ?_
    have hP9 := hP.sub (ws' := [(a0, .inr (4, [g6, g7, g8, g9, g10, g11, g12, g13, g14, .ref a5, g15, g16, g17, g18, g19, g20, g21, g22])), (a5, .inl (cB23, 5, .inl f24))]) [0, 1] rfl
    have hD9 := hD.sub (ws' := [(a0, .inr (4, [g6, g7, g8, g9, g10, g11, g12, g13, g14, .ref a5, g15, g16, g17, g18, g19, g20, g21, g22])), (a5, .inl (cB23, 5, .inl f24))]) [0, 1] (by decide) rfl
    have hK9 := hK.sub (tys' := []) [] rfl
    exact W.zret (v := 0) hx hb hr rfl (fun t ht hW => ⟨⟨0, (), rfl, (by first | trivial | omega | (simp only [ltv_0]; omega)), by rw [ht]; exact hP9, va_K.moved hW.alike hK9, hD9⟩, hS.F ht⟩) hS.2.2 dX6_isTangle_28
  · simp only [fa_lt, fa_le, fa_eq, ltv_0] at c6
    refine lv_iconst (v := 1) hx hb dX6_isTangle_23 (by decide) ?_
    refine lv_goto (tgt := 28) hx hb dX6_isTangle_24 (by decide) ?_
    have hP9 := hP.sub (ws' := [(a0, .inr (4, [g6, g7, g8, g9, g10, g11, g12, g13, g14, .ref a5, g15, g16, g17, g18, g19, g20, g21, g22])), (a5, .inl (cB23, 5, .inl f24))]) [0, 1] rfl
    have hD9 := hD.sub (ws' := [(a0, .inr (4, [g6, g7, g8, g9, g10, g11, g12, g13, g14, .ref a5, g15, g16, g17, g18, g19, g20, g21, g22])), (a5, .inl (cB23, 5, .inl f24))]) [0, 1] (by decide) rfl
    have hK9 := hK.sub (tys' := []) [] rfl
    exact W.zret (v := 1) hx hb hr rfl (fun t ht hW => ⟨⟨1, (), rfl, (by first | trivial | omega | (simp only [ltv_0, ltv_1]; omega)), by rw [ht]; exact hP9, va_K.moved hW.alike hK9, hD9⟩, hS.F ht⟩) hS.2.2 dX6_isTangle_28
theorem dX6_wishBy_0 : decode cX6_wishBy 0 = .ok (.iload_n 2, 1) := by decide +kernel
theorem dX6_wishBy_1 : decode cX6_wishBy 1 = .ok (.bipush 10, 2) := by decide +kernel
theorem dX6_wishBy_11 : decode cX6_wishBy 11 = .ok (.iload_n 1, 1) := by decide +kernel
theorem dX6_wishBy_12 : decode cX6_wishBy 12 = .ok (.iaload, 1) := by decide +kernel
theorem dX6_wishBy_13 : decode cX6_wishBy 13 = .ok (.isub, 1) := by decide +kernel
theorem dX6_wishBy_14 : decode cX6_wishBy 14 = .ok (.invokestatic 89, 3) := by decide +kernel
theorem dX6_wishBy_17 : decode cX6_wishBy 17 = .ok (.imul, 1) := by decide +kernel
theorem dX6_wishBy_18 : decode cX6_wishBy 18 = .ok (.isub, 1) := by decide +kernel
theorem dX6_wishBy_19 : decode cX6_wishBy 19 = .ok (.istore 4, 2) := by decide +kernel
theorem dX6_wishBy_21 : decode cX6_wishBy 21 = .ok (.aload_n 0, 1) := by decide +kernel
theorem dX6_wishBy_22 : decode cX6_wishBy 22 = .ok (.getfield 43, 3) := by decide +kernel
theorem dX6_wishBy_25 : decode cX6_wishBy 25 = .ok (.iload_n 1, 1) := by decide +kernel
theorem dX6_wishBy_26 : decode cX6_wishBy 26 = .ok (.iaload, 1) := by decide +kernel
theorem dX6_wishBy_27 : decode cX6_wishBy 27 = .ok (.iconst 3, 1) := by decide +kernel
theorem dX6_wishBy_28 : decode cX6_wishBy 28 = .ok (.if_icmp .ne 9, 3) := by decide +kernel
theorem dX6_wishBy_3 : decode cX6_wishBy 3 = .ok (.iload_n 3, 1) := by decide +kernel
theorem dX6_wishBy_31 : decode cX6_wishBy 31 = .ok (.iinc 4 (-20), 3) := by decide +kernel
theorem dX6_wishBy_34 : decode cX6_wishBy 34 = .ok (.goto 19, 3) := by decide +kernel
theorem dX6_wishBy_37 : decode cX6_wishBy 37 = .ok (.aload_n 0, 1) := by decide +kernel
theorem dX6_wishBy_38 : decode cX6_wishBy 38 = .ok (.getfield 55, 3) := by decide +kernel
theorem dX6_wishBy_4 : decode cX6_wishBy 4 = .ok (.invokestatic 72, 3) := by decide +kernel
theorem dX6_wishBy_41 : decode cX6_wishBy 41 = .ok (.iload_n 1, 1) := by decide +kernel
theorem dX6_wishBy_42 : decode cX6_wishBy 42 = .ok (.iaload, 1) := by decide +kernel
theorem dX6_wishBy_43 : decode cX6_wishBy 43 = .ok (.iload_n 3, 1) := by decide +kernel
theorem dX6_wishBy_44 : decode cX6_wishBy 44 = .ok (.invokestatic 83, 3) := by decide +kernel
theorem dX6_wishBy_47 : decode cX6_wishBy 47 = .ok (.if_icmp .ne 6, 3) := by decide +kernel
theorem dX6_wishBy_50 : decode cX6_wishBy 50 = .ok (.iinc 4 20, 3) := by decide +kernel
theorem dX6_wishBy_53 : decode cX6_wishBy 53 = .ok (.aload_n 0, 1) := by decide +kernel
theorem dX6_wishBy_54 : decode cX6_wishBy 54 = .ok (.getfield 43, 3) := by decide +kernel
theorem dX6_wishBy_57 : decode cX6_wishBy 57 = .ok (.iload_n 1, 1) := by decide +kernel
theorem dX6_wishBy_58 : decode cX6_wishBy 58 = .ok (.iaload, 1) := by decide +kernel
theorem dX6_wishBy_59 : decode cX6_wishBy 59 = .ok (.iconst 2, 1) := by decide +kernel
theorem dX6_wishBy_60 : decode cX6_wishBy 60 = .ok (.if_icmp .eq 25, 3) := by decide +kernel
theorem dX6_wishBy_63 : decode cX6_wishBy 63 = .ok (.iload 4, 2) := by decide +kernel
theorem dX6_wishBy_65 : decode cX6_wishBy 65 = .ok (.bipush 8, 2) := by decide +kernel
theorem dX6_wishBy_67 : decode cX6_wishBy 67 = .ok (.iload_n 3, 1) := by decide +kernel
theorem dX6_wishBy_68 : decode cX6_wishBy 68 = .ok (.invokestatic 80, 3) := by decide +kernel
theorem dX6_wishBy_7 : decode cX6_wishBy 7 = .ok (.aload_n 0, 1) := by decide +kernel
theorem dX6_wishBy_71 : decode cX6_wishBy 71 = .ok (.aload_n 0, 1) := by decide +kernel
theorem dX6_wishBy_72 : decode cX6_wishBy 72 = .ok (.getfield 49, 3) := by decide +kernel
theorem dX6_wishBy_75 : decode cX6_wishBy 75 = .ok (.iload_n 1, 1) := by decide +kernel
theorem dX6_wishBy_76 : decode cX6_wishBy 76 = .ok (.iaload, 1) := by decide +kernel
theorem dX6_wishBy_77 : decode cX6_wishBy 77 = .ok (.isub, 1) := by decide +kernel
theorem dX6_wishBy_78 : decode cX6_wishBy 78 = .ok (.invokestatic 89, 3) := by decide +kernel
theorem dX6_wishBy_8 : decode cX6_wishBy 8 = .ok (.getfield 46, 3) := by decide +kernel
theorem dX6_wishBy_81 : decode cX6_wishBy 81 = .ok (.imul, 1) := by decide +kernel
theorem dX6_wishBy_82 : decode cX6_wishBy 82 = .ok (.isub, 1) := by decide +kernel
theorem dX6_wishBy_83 : decode cX6_wishBy 83 = .ok (.istore 4, 2) := by decide +kernel
theorem dX6_wishBy_85 : decode cX6_wishBy 85 = .ok (.iconst 0, 1) := by decide +kernel
theorem dX6_wishBy_86 : decode cX6_wishBy 86 = .ok (.bipush 100, 2) := by decide +kernel
theorem dX6_wishBy_88 : decode cX6_wishBy 88 = .ok (.iload 4, 2) := by decide +kernel
theorem dX6_wishBy_90 : decode cX6_wishBy 90 = .ok (.invokestatic 98, 3) := by decide +kernel
theorem dX6_wishBy_93 : decode cX6_wishBy 93 = .ok (.invokestatic 102, 3) := by decide +kernel
theorem dX6_wishBy_96 : decode cX6_wishBy 96 = .ok (.ireturn, 1) := by decide +kernel
def vX6_wishBy : List Cond := .code yX6_wishBy cX6_wishBy 5 (some .int) :: ([.code yX10_spotOf cX10_spotOf 1 (some .int), .initialized RX10, .static yX10_spotOf, .fieldLink RX6 46 "HookPier$Plan" "at" "[I", .methodLink RX6 89 Lib.Math.abs.name, .static Lib.Math.abs.name, .initialized "java/lang/Math", .code Lib.Math.abs.name Lib.Math.abs.code 1 (some .int), .fieldLink RX6 43 "HookPier$Plan" "kind" "[I", .fieldLink RX6 55 "HookPier$Plan" "likes" "[I", .code yX10_baitOf cX10_baitOf 1 (some .int), .static yX10_baitOf, .methodLink RX6 98 Lib.Math.min.name, .static Lib.Math.min.name, .code Lib.Math.min.name Lib.Math.min.code 2 (some .int), .methodLink RX6 102 Lib.Math.max.name, .static Lib.Math.max.name, .code Lib.Math.max.name Lib.Math.max.code 2 (some .int), .code yX10_fathomsOf cX10_fathomsOf 1 (some .int), .static yX10_fathomsOf, .fieldLink RX6 49 "HookPier$Plan" "depth" "[I"] ++ wsX60)
theorem iX6_wishBy_X6 : ∀ w ∈ wsX60, w ∈ vX6_wishBy := fun _ h => List.mem_cons_of_mem _ (List.mem_append_right _ h)
set_option maxRecDepth 20000 in
theorem gX6_wishBy_0 : GoodIn vX6_wishBy vX10_spotOf := (goodIn_r (.code yX10_spotOf cX10_spotOf 1 (some .int) :: []) [1] (by decide +kernel) (by decide +kernel) : GoodIn vX6_wishBy (.code yX10_spotOf cX10_spotOf 1 (some .int) :: []))
set_option maxRecDepth 20000 in
theorem gX6_wishBy_1 : GoodIn vX6_wishBy vX10_baitOf := (goodIn_r (.code yX10_baitOf cX10_baitOf 1 (some .int) :: []) [11] (by decide +kernel) (by decide +kernel) : GoodIn vX6_wishBy (.code yX10_baitOf cX10_baitOf 1 (some .int) :: []))
set_option maxRecDepth 20000 in
theorem gX6_wishBy_2 : GoodIn vX6_wishBy vX10_fathomsOf := (goodIn_r (.code yX10_fathomsOf cX10_fathomsOf 1 (some .int) :: []) [19] (by decide +kernel) (by decide +kernel) : GoodIn vX6_wishBy (.code yX10_fathomsOf cX10_fathomsOf 1 (some .int) :: []))
set_option maxHeartbeats 2000000 in
set_option maxRecDepth 100000 in
theorem kX6_wishBy (l : Launch) (dC : Nat → ClassId) (dI : Nat → Nat → Nat) (a0 : Nat) (k1 : Int32) (k2 : Int32) (k3 : Int32) (a4 : Nat) (a5 : Nat) (a6 : Nat) (a7 : Nat) (g8 : Value) (g9 : Value) (g10 : Value) (g11 : Value) (g12 : Value) (g13 : Value) (g14 : Value) (g15 : Value) (g16 : Value) (g17 : Value) (g18 : Value) (g19 : Value) (g20 : Value) (g21 : Value) (cB22 : ClassId) (f23 : Nat → Int32) (cB24 : ClassId) (f25 : Nat → Int32) (cB26 : ClassId) (f27 : Nat → Int32) (cB28 : ClassId) (f29 : Nat → Int32) (hk1 : (0 ≤ k1.toInt ∧ k1.toInt ≤ 5)) (sz : Nat) : Met l yX6_wishBy vX6_wishBy ({ frames := 1, cells := 0, slots := 0, locals := 21 }) (PC (dC, dI) [.ref a0, .int k1, .int k2, .int k3] sz [(a0, .inr (4, [g8, g9, g10, g11, g12, g13, g14, g15, g16, g17, .ref a4, .ref a5, .ref a6, g18, .ref a7, g19, g20, g21])), (a4, .inl (cB22, 6, .inl f23)), (a5, .inl (cB24, 6, .inl f25)), (a6, .inl (cB26, 6, .inl f27)), (a7, .inl (cB28, 6, .inl f29))] [(cB22, .int), (cB24, .int), (cB26, .int), (cB28, .int)]) (va_Qi (S := Unit) (fun (r : Int32) _ => (0 ≤ r.toInt ∧ r.toInt ≤ 100)) (fun _ t => BC (dC, dI) (va_A [(a0, .inr (4, [g8, g9, g10, g11, g12, g13, g14, g15, g16, g17, .ref a4, .ref a5, .ref a6, g18, .ref a7, g19, g20, g21])), (a4, .inl (cB22, 6, .inl f23)), (a5, .inl (cB24, 6, .inl f25)), (a6, .inl (cB26, 6, .inl f27)), (a7, .inl (cB28, 6, .inl f29))] sz) [(a0, .inr (4, [g8, g9, g10, g11, g12, g13, g14, g15, g16, g17, .ref a4, .ref a5, .ref a6, g18, .ref a7, g19, g20, g21])), (a4, .inl (cB22, 6, .inl f23)), (a5, .inl (cB24, 6, .inl f25)), (a6, .inl (cB26, 6, .inl f27)), (a7, .inl (cB28, 6, .inl f29))] [] t) (va_A [(a0, .inr (4, [g8, g9, g10, g11, g12, g13, g14, g15, g16, g17, .ref a4, .ref a5, .ref a6, g18, .ref a7, g19, g20, g21])), (a4, .inl (cB22, 6, .inl f23)), (a5, .inl (cB24, 6, .inl f25)), (a6, .inl (cB26, 6, .inl f27)), (a7, .inl (cB28, 6, .inl f29))] sz)) 0 0 (va_A [(a0, .inr (4, [g8, g9, g10, g11, g12, g13, g14, g15, g16, g17, .ref a4, .ref a5, .ref a6, g18, .ref a7, g19, g20, g21])), (a4, .inl (cB22, 6, .inl f23)), (a5, .inl (cB24, 6, .inl f25)), (a6, .inl (cB26, 6, .inl f27)), (a7, .inl (cB28, 6, .inl f29))] sz) := by
  refine Met.ofW (cc := cX6_wishBy) (maxL := 5) (ret := (some .int)) (by decide) rfl ?_
  intro p e s m args below meth c s₁ B hml hv
  obtain ⟨rfl, hsz, hP, hK, hD0, hN⟩ := hv
  have hx := B.exec
  have hb := B.bytes
  have hr := B.returns
  have hts := atoms_spec (ws := vX6_wishBy) B.pre
  have hown : s.vm.findClass RX6 = some m.cls := findClass_of_methodNamed B.named
  have hlocks := B.notSynchronized
  subst hsz
  have hD := hD0.self (sz := s.heap.size)
  generalize hAe : va_A [(a0, .inr (4, [g8, g9, g10, g11, g12, g13, g14, g15, g16, g17, .ref a4, .ref a5, .ref a6, g18, .ref a7, g19, g20, g21])), (a4, .inl (cB22, 6, .inl f23)), (a5, .inl (cB24, 6, .inl f25)), (a6, .inl (cB26, 6, .inl f27)), (a7, .inl (cB28, 6, .inl f29))] s.heap.size = A at hD ⊢
  have hA : ∀ q : Nat, s.heap.size ≤ q → A q := fun q h => by rw [← hAe]; exact Or.inr h
  have hS : va_S A s.heap s.heap [] := va_S.rf
  have hP : va_P (dC, dI) vwCl [(a0, .inr (4, [g8, g9, g10, g11, g12, g13, g14, g15, g16, g17, .ref a4, .ref a5, .ref a6, g18, .ref a7, g19, g20, g21])), (a4, .inl (cB22, 6, .inl f23)), (a5, .inl (cB24, 6, .inl f25)), (a6, .inl (cB26, 6, .inl f27)), (a7, .inl (cB28, 6, .inl f29))] s.heap := hP
  have hl := lv_entry ([.ref a0, .int k1, .int k2, .int k3]) (n := 5) (Nat.le_of_ble_eq_true rfl)
  rw [lg_entry_eq]
  generalize (lg_sl ([.ref a0, .int k1, .int k2, .int k3]) ++ List.replicate (5 - (lg_sl ([.ref a0, .int k1, .int k2, .int k3])).length) Slot.unset).toArray = ls at hl ⊢
  have hl : lv_has ls 5 [(0, .ref a0), (1, .int k1), (2, .int k2), (3, .int k3)] := hl
  refine lv_iload_n hx hb dX6_wishBy_0 rfl (lv_at hl 2 rfl) ?_
  refine lv_bipush (v := 10) hx hb dX6_wishBy_1 (by decide) ?_
  refine lv_iload_n hx hb dX6_wishBy_3 rfl (lv_at hl 3 rfl) ?_
  refine cl_i (wc := []) (wr := [(a0, .inr (4, [g8, g9, g10, g11, g12, g13, g14, g15, g16, g17, .ref a4, .ref a5, .ref a6, g18, .ref a7, g19, g20, g21])), (a4, .inl (cB22, 6, .inl f23)), (a5, .inl (cB24, 6, .inl f25)), (a6, .inl (cB26, 6, .inl f27)), (a7, .inl (cB28, 6, .inl f29))]) (va_runSN (As := [.int k3]) (rest := [.int 10, .int k2]) ⟨hx, hb, hml, hown, hts⟩ (kX10_spotOf l dC dI k3  s.heap.size) ⟨va_cnB 1 hts gX6_wishBy_0 rfl rfl rfl (hN.1 (.methodLinkNest RX6 72 yX10_spotOf "HookPier") (List.mem_of_getElem? (i := 12) rfl)) (hts (.initialized RX10) (List.mem_of_getElem? (i := 2) rfl)) (by decide +kernel) ⟨Nat.le_of_ble_eq_true rfl, Nat.le_of_ble_eq_true rfl⟩, (hts (.static yX10_spotOf) (List.mem_of_getElem? (i := 3) rfl)), trivial⟩ (PS (hP.sub (ws' := []) [] rfl) (hK.sub (tys' := []) [] rfl) (hD.sub (ws' := []) [] (by decide) rfl) hN) rfl rfl hl.1 rfl (lv_room (Nat.le_of_ble_eq_true rfl)) dX6_wishBy_4 ⟨Nat.le_of_ble_eq_true rfl, Nat.le_of_ble_eq_true rfl⟩) hP hD hK hS hA [] [0, 1, 2, 3, 4] rfl rfl (by decide) (by decide) (fun z1 _u H locs hw hP hD hK hS => ?_)
  have b2 := hw
  have hP : va_P (dC, dI) vwCl [(a0, .inr (4, [g8, g9, g10, g11, g12, g13, g14, g15, g16, g17, .ref a4, .ref a5, .ref a6, g18, .ref a7, g19, g20, g21])), (a4, .inl (cB22, 6, .inl f23)), (a5, .inl (cB24, 6, .inl f25)), (a6, .inl (cB26, 6, .inl f27)), (a7, .inl (cB28, 6, .inl f29))] H := hP
  have hD : va_D A [(a0, .inr (4, [g8, g9, g10, g11, g12, g13, g14, g15, g16, g17, .ref a4, .ref a5, .ref a6, g18, .ref a7, g19, g20, g21])), (a4, .inl (cB22, 6, .inl f23)), (a5, .inl (cB24, 6, .inl f25)), (a6, .inl (cB26, 6, .inl f27)), (a7, .inl (cB28, 6, .inl f29))] := hD
  have hK : va_K (dC, dI) vwCl [(cB22, .int), (cB24, .int), (cB26, .int), (cB28, .int)] s := hK
  refine lv_aload_n hx hb dX6_wishBy_7 rfl (lv_at hl 0 rfl) ?_
  refine va_get (D := (dC, dI)) (ci := 4) (v := .ref a5) (C := RX6) (T := TX6) (N := 18) hx hb hts iX6_wishBy_X6 hown hK hP 0 rfl rfl 11 (by decide) (hts (.fieldLink RX6 46 "HookPier$Plan" "at" "[I") (List.mem_of_getElem? (i := 4) rfl)) (fun _ h9 => h9) rfl dX6_wishBy_8 ?_
  refine lv_iload_n hx hb dX6_wishBy_11 rfl (lv_at hl 1 rfl) ?_
  refine va_iald hx hb hK hP 2 1 rfl rfl (vp_in_iff.mpr (by omega)) dX6_wishBy_12 ?_
  refine lv_topi (fun z3 ez3 => ?_)
  clear ez3
  refine lv_isub hx hb dX6_wishBy_13 ?_
  refine lv_topi (fun z4 ez4 => ?_)
  clear ez4
  refine va_mabs hx hb (by rw [hml]; exact hl.1.symm) hown (hts (.methodLink RX6 89 Lib.Math.abs.name) (List.mem_of_getElem? (i := 5) rfl)) (hts (.static Lib.Math.abs.name) (List.mem_of_getElem? (i := 6) rfl)) (hts (.initialized "java/lang/Math") (List.mem_of_getElem? (i := 7) rfl)) (hts (.code Lib.Math.abs.name Lib.Math.abs.code 1 (some .int)) (List.mem_of_getElem? (i := 8) rfl)) (Nat.le_of_ble_eq_true rfl) (Nat.le_of_ble_eq_true rfl) (Nat.le_of_ble_eq_true rfl) (Nat.le_of_ble_eq_true rfl) dX6_wishBy_14 ?_
  refine lv_topi (fun z5 ez5 => ?_)
  clear ez5
  refine lv_imul hx hb dX6_wishBy_17 ?_
  refine lv_topi (fun z6 ez6 => ?_)
  clear ez6
  refine lv_isub hx hb dX6_wishBy_18 ?_
  refine lv_topi (fun z7 ez7 => ?_)
  clear ez7
  refine lv_istore (lv' := [(4, .int z7), (0, .ref a0), (1, .int k1), (2, .int k2), (3, .int k3)]) hx hb dX6_wishBy_19 hl (by decide) rfl (fun ls hl => ?_)
  refine lv_aload_n hx hb dX6_wishBy_21 rfl (lv_at hl 1 rfl) ?_
  refine va_get (D := (dC, dI)) (ci := 4) (v := .ref a4) (C := RX6) (T := TX6) (N := 18) hx hb hts iX6_wishBy_X6 hown hK hP 0 rfl rfl 10 (by decide) (hts (.fieldLink RX6 43 "HookPier$Plan" "kind" "[I") (List.mem_of_getElem? (i := 9) rfl)) (fun _ h9 => h9) rfl dX6_wishBy_22 ?_
  refine lv_iload_n hx hb dX6_wishBy_25 rfl (lv_at hl 2 rfl) ?_
  refine va_iald hx hb hK hP 1 0 rfl rfl (vp_in_iff.mpr (by omega)) dX6_wishBy_26 ?_
  refine lv_topi (fun z8 ez8 => ?_)
  clear ez8
  refine lv_iconst (v := 3) hx hb dX6_wishBy_27 (by decide) ?_
  refine lv_icmp_ne (tgt := 37) hx hb dX6_wishBy_28 (by decide) (fun c9 => ?_) (fun c9 => ?_)
  · simp only [fa_lt, fa_le, fa_eq, ltv_0, ltv_3] at c9
    refine lv_aload_n hx hb dX6_wishBy_37 rfl (lv_at hl 1 rfl) ?_
    refine va_get (D := (dC, dI)) (ci := 4) (v := .ref a7) (C := RX6) (T := TX6) (N := 18) hx hb hts iX6_wishBy_X6 hown hK hP 0 rfl rfl 14 (by decide) (hts (.fieldLink RX6 55 "HookPier$Plan" "likes" "[I") (List.mem_of_getElem? (i := 10) rfl)) (fun _ h9 => h9) rfl dX6_wishBy_38 ?_
    refine lv_iload_n hx hb dX6_wishBy_41 rfl (lv_at hl 2 rfl) ?_
    refine va_iald hx hb hK hP 4 3 rfl rfl (vp_in_iff.mpr (by omega)) dX6_wishBy_42 ?_
    refine lv_topi (fun z10 ez10 => ?_)
    clear ez10
    refine lv_iload_n hx hb dX6_wishBy_43 rfl (lv_at hl 4 rfl) ?_
    refine cl_i (wc := []) (wr := [(a0, .inr (4, [g8, g9, g10, g11, g12, g13, g14, g15, g16, g17, .ref a4, .ref a5, .ref a6, g18, .ref a7, g19, g20, g21])), (a4, .inl (cB22, 6, .inl f23)), (a5, .inl (cB24, 6, .inl f25)), (a6, .inl (cB26, 6, .inl f27)), (a7, .inl (cB28, 6, .inl f29))]) (va_runSN (As := [.int k3]) (rest := [.int z10]) ⟨hx, hb, hml, hown, hts⟩ (kX10_baitOf l dC dI k3  H.size) ⟨va_cnB 1 hts gX6_wishBy_1 rfl rfl rfl (hN.1 (.methodLinkNest RX6 83 yX10_baitOf "HookPier") (List.mem_of_getElem? (i := 13) rfl)) (hts (.initialized RX10) (List.mem_of_getElem? (i := 2) rfl)) (by decide +kernel) ⟨Nat.le_of_ble_eq_true rfl, Nat.le_of_ble_eq_true rfl⟩, (hts (.static yX10_baitOf) (List.mem_of_getElem? (i := 12) rfl)), trivial⟩ (PS (hP.sub (ws' := []) [] rfl) (hK.sub (tys' := []) [] rfl) (hD.sub (ws' := []) [] (by decide) rfl) hN) rfl rfl hl.1 rfl (lv_room (Nat.le_of_ble_eq_true rfl)) dX6_wishBy_44 ⟨Nat.le_of_ble_eq_true rfl, Nat.le_of_ble_eq_true rfl⟩) hP hD hK hS hA [] [0, 1, 2, 3, 4] rfl rfl (by decide) (by decide) (fun z11 _u H locs hw hP hD hK hS => ?_)
    have b12 := hw
    have hP : va_P (dC, dI) vwCl [(a0, .inr (4, [g8, g9, g10, g11, g12, g13, g14, g15, g16, g17, .ref a4, .ref a5, .ref a6, g18, .ref a7, g19, g20, g21])), (a4, .inl (cB22, 6, .inl f23)), (a5, .inl (cB24, 6, .inl f25)), (a6, .inl (cB26, 6, .inl f27)), (a7, .inl (cB28, 6, .inl f29))] H := hP
    have hD : va_D A [(a0, .inr (4, [g8, g9, g10, g11, g12, g13, g14, g15, g16, g17, .ref a4, .ref a5, .ref a6, g18, .ref a7, g19, g20, g21])), (a4, .inl (cB22, 6, .inl f23)), (a5, .inl (cB24, 6, .inl f25)), (a6, .inl (cB26, 6, .inl f27)), (a7, .inl (cB28, 6, .inl f29))] := hD
    have hK : va_K (dC, dI) vwCl [(cB22, .int), (cB24, .int), (cB26, .int), (cB28, .int)] s := hK
    refine lv_icmp_ne (tgt := 53) hx hb dX6_wishBy_47 (by decide) (fun c13 => ?_) (fun c13 => ?_)
    · simp only [fa_lt, fa_le, fa_eq, ltv_0] at c13
      refine lv_aload_n hx hb dX6_wishBy_53 rfl (lv_at hl 1 rfl) ?_
      refine va_get (D := (dC, dI)) (ci := 4) (v := .ref a4) (C := RX6) (T := TX6) (N := 18) hx hb hts iX6_wishBy_X6 hown hK hP 0 rfl rfl 10 (by decide) (hts (.fieldLink RX6 43 "HookPier$Plan" "kind" "[I") (List.mem_of_getElem? (i := 9) rfl)) (fun _ h9 => h9) rfl dX6_wishBy_54 ?_
      refine lv_iload_n hx hb dX6_wishBy_57 rfl (lv_at hl 2 rfl) ?_
      refine va_iald hx hb hK hP 1 0 rfl rfl (vp_in_iff.mpr (by omega)) dX6_wishBy_58 ?_
      refine lv_topi (fun z14 ez14 => ?_)
      clear ez14
      refine lv_iconst (v := 2) hx hb dX6_wishBy_59 (by decide) ?_
      refine lv_icmp_eq (tgt := 85) hx hb dX6_wishBy_60 (by decide) (fun c15 => ?_) (fun c15 => ?_)
      · simp only [fa_lt, fa_le, fa_eq, ltv_0, ltv_2] at c15
        refine lv_iconst (v := 0) hx hb dX6_wishBy_85 (by decide) ?_
        refine lv_bipush (v := 100) hx hb dX6_wishBy_86 (by decide) ?_
        refine lv_iload hx hb dX6_wishBy_88 (lv_at hl 0 rfl) ?_
        refine va_mmin hx hb (by rw [hml]; exact hl.1.symm) hown (hts (.methodLink RX6 98 Lib.Math.min.name) (List.mem_of_getElem? (i := 13) rfl)) (hts (.static Lib.Math.min.name) (List.mem_of_getElem? (i := 14) rfl)) (hts (.initialized "java/lang/Math") (List.mem_of_getElem? (i := 7) rfl)) (hts (.code Lib.Math.min.name Lib.Math.min.code 2 (some .int)) (List.mem_of_getElem? (i := 15) rfl)) (Nat.le_of_ble_eq_true rfl) (Nat.le_of_ble_eq_true rfl) (Nat.le_of_ble_eq_true rfl) (Nat.le_of_ble_eq_true rfl) dX6_wishBy_90 ?_
        refine lv_topi (fun z16 ez16 => ?_)
        have tz16 : (z16.toInt ≤ 100) := by rw [ez16]; split <;> rename_i hcz16 <;> simp only [fa_lt, fa_le, ltv_0, ltv_100] at hcz16 ⊢ <;> omega
        refine va_mmax hx hb (by rw [hml]; exact hl.1.symm) hown (hts (.methodLink RX6 102 Lib.Math.max.name) (List.mem_of_getElem? (i := 16) rfl)) (hts (.static Lib.Math.max.name) (List.mem_of_getElem? (i := 17) rfl)) (hts (.initialized "java/lang/Math") (List.mem_of_getElem? (i := 7) rfl)) (hts (.code Lib.Math.max.name Lib.Math.max.code 2 (some .int)) (List.mem_of_getElem? (i := 18) rfl)) (Nat.le_of_ble_eq_true rfl) (Nat.le_of_ble_eq_true rfl) (Nat.le_of_ble_eq_true rfl) (Nat.le_of_ble_eq_true rfl) dX6_wishBy_93 ?_
        refine lv_topi (fun z17 ez17 => ?_)
        have tz17 : (0 ≤ z17.toInt ∧ z17.toInt ≤ 100) := by rw [ez17]; split <;> rename_i hcz17 <;> simp only [fa_lt, fa_le, ltv_0] at hcz17 ⊢ <;> omega
        have hP9 := hP.sub (ws' := [(a0, .inr (4, [g8, g9, g10, g11, g12, g13, g14, g15, g16, g17, .ref a4, .ref a5, .ref a6, g18, .ref a7, g19, g20, g21])), (a4, .inl (cB22, 6, .inl f23)), (a5, .inl (cB24, 6, .inl f25)), (a6, .inl (cB26, 6, .inl f27)), (a7, .inl (cB28, 6, .inl f29))]) [0, 1, 2, 3, 4] rfl
        have hD9 := hD.sub (ws' := [(a0, .inr (4, [g8, g9, g10, g11, g12, g13, g14, g15, g16, g17, .ref a4, .ref a5, .ref a6, g18, .ref a7, g19, g20, g21])), (a4, .inl (cB22, 6, .inl f23)), (a5, .inl (cB24, 6, .inl f25)), (a6, .inl (cB26, 6, .inl f27)), (a7, .inl (cB28, 6, .inl f29))]) [0, 1, 2, 3, 4] (by decide) rfl
        have hK9 := hK.sub (tys' := []) [] rfl
        exact W.iret (v := z17) hx hb hr (fun t ht hW => ⟨⟨z17, (), rfl, (by first | trivial | omega | (simp only [ltv_0]; omega)), by rw [ht]; exact hP9, va_K.moved hW.alike hK9, hD9⟩, hS.F ht⟩) hS.2.2 dX6_wishBy_96
      · simp only [fa_lt, fa_le, fa_eq, ltv_0, ltv_2] at c15
        refine lv_iload hx hb dX6_wishBy_63 (lv_at hl 0 rfl) ?_
        refine lv_bipush (v := 8) hx hb dX6_wishBy_65 (by decide) ?_
        refine lv_iload_n hx hb dX6_wishBy_67 rfl (lv_at hl 4 rfl) ?_
        refine cl_i (wc := []) (wr := [(a0, .inr (4, [g8, g9, g10, g11, g12, g13, g14, g15, g16, g17, .ref a4, .ref a5, .ref a6, g18, .ref a7, g19, g20, g21])), (a4, .inl (cB22, 6, .inl f23)), (a5, .inl (cB24, 6, .inl f25)), (a6, .inl (cB26, 6, .inl f27)), (a7, .inl (cB28, 6, .inl f29))]) (va_runSN (As := [.int k3]) (rest := [.int 8, .int z7]) ⟨hx, hb, hml, hown, hts⟩ (kX10_fathomsOf l dC dI k3  H.size) ⟨va_cnB 1 hts gX6_wishBy_2 rfl rfl rfl (hN.1 (.methodLinkNest RX6 80 yX10_fathomsOf "HookPier") (List.mem_of_getElem? (i := 14) rfl)) (hts (.initialized RX10) (List.mem_of_getElem? (i := 2) rfl)) (by decide +kernel) ⟨Nat.le_of_ble_eq_true rfl, Nat.le_of_ble_eq_true rfl⟩, (hts (.static yX10_fathomsOf) (List.mem_of_getElem? (i := 20) rfl)), trivial⟩ (PS (hP.sub (ws' := []) [] rfl) (hK.sub (tys' := []) [] rfl) (hD.sub (ws' := []) [] (by decide) rfl) hN) rfl rfl hl.1 rfl (lv_room (Nat.le_of_ble_eq_true rfl)) dX6_wishBy_68 ⟨Nat.le_of_ble_eq_true rfl, Nat.le_of_ble_eq_true rfl⟩) hP hD hK hS hA [] [0, 1, 2, 3, 4] rfl rfl (by decide) (by decide) (fun z18 _u H locs hw hP hD hK hS => ?_)
        have b19 := hw
        have hP : va_P (dC, dI) vwCl [(a0, .inr (4, [g8, g9, g10, g11, g12, g13, g14, g15, g16, g17, .ref a4, .ref a5, .ref a6, g18, .ref a7, g19, g20, g21])), (a4, .inl (cB22, 6, .inl f23)), (a5, .inl (cB24, 6, .inl f25)), (a6, .inl (cB26, 6, .inl f27)), (a7, .inl (cB28, 6, .inl f29))] H := hP
        have hD : va_D A [(a0, .inr (4, [g8, g9, g10, g11, g12, g13, g14, g15, g16, g17, .ref a4, .ref a5, .ref a6, g18, .ref a7, g19, g20, g21])), (a4, .inl (cB22, 6, .inl f23)), (a5, .inl (cB24, 6, .inl f25)), (a6, .inl (cB26, 6, .inl f27)), (a7, .inl (cB28, 6, .inl f29))] := hD
        have hK : va_K (dC, dI) vwCl [(cB22, .int), (cB24, .int), (cB26, .int), (cB28, .int)] s := hK
        refine lv_aload_n hx hb dX6_wishBy_71 rfl (lv_at hl 1 rfl) ?_
        refine va_get (D := (dC, dI)) (ci := 4) (v := .ref a6) (C := RX6) (T := TX6) (N := 18) hx hb hts iX6_wishBy_X6 hown hK hP 0 rfl rfl 12 (by decide) (hts (.fieldLink RX6 49 "HookPier$Plan" "depth" "[I") (List.mem_of_getElem? (i := 21) rfl)) (fun _ h9 => h9) rfl dX6_wishBy_72 ?_
        refine lv_iload_n hx hb dX6_wishBy_75 rfl (lv_at hl 2 rfl) ?_
        refine va_iald hx hb hK hP 3 2 rfl rfl (vp_in_iff.mpr (by omega)) dX6_wishBy_76 ?_
        refine lv_topi (fun z20 ez20 => ?_)
        clear ez20
        refine lv_isub hx hb dX6_wishBy_77 ?_
        refine lv_topi (fun z21 ez21 => ?_)
        clear ez21
        refine va_mabs hx hb (by rw [hml]; exact hl.1.symm) hown (hts (.methodLink RX6 89 Lib.Math.abs.name) (List.mem_of_getElem? (i := 5) rfl)) (hts (.static Lib.Math.abs.name) (List.mem_of_getElem? (i := 6) rfl)) (hts (.initialized "java/lang/Math") (List.mem_of_getElem? (i := 7) rfl)) (hts (.code Lib.Math.abs.name Lib.Math.abs.code 1 (some .int)) (List.mem_of_getElem? (i := 8) rfl)) (Nat.le_of_ble_eq_true rfl) (Nat.le_of_ble_eq_true rfl) (Nat.le_of_ble_eq_true rfl) (Nat.le_of_ble_eq_true rfl) dX6_wishBy_78 ?_
        refine lv_topi (fun z22 ez22 => ?_)
        clear ez22
        refine lv_imul hx hb dX6_wishBy_81 ?_
        refine lv_topi (fun z23 ez23 => ?_)
        clear ez23
        refine lv_isub hx hb dX6_wishBy_82 ?_
        refine lv_topi (fun z24 ez24 => ?_)
        clear ez24
        refine lv_istore (lv' := [(4, .int z24), (0, .ref a0), (1, .int k1), (2, .int k2), (3, .int k3)]) hx hb dX6_wishBy_83 hl (by decide) rfl (fun ls hl => ?_)
        refine lv_iconst (v := 0) hx hb dX6_wishBy_85 (by decide) ?_
        refine lv_bipush (v := 100) hx hb dX6_wishBy_86 (by decide) ?_
        refine lv_iload hx hb dX6_wishBy_88 (lv_at hl 0 rfl) ?_
        refine va_mmin hx hb (by rw [hml]; exact hl.1.symm) hown (hts (.methodLink RX6 98 Lib.Math.min.name) (List.mem_of_getElem? (i := 13) rfl)) (hts (.static Lib.Math.min.name) (List.mem_of_getElem? (i := 14) rfl)) (hts (.initialized "java/lang/Math") (List.mem_of_getElem? (i := 7) rfl)) (hts (.code Lib.Math.min.name Lib.Math.min.code 2 (some .int)) (List.mem_of_getElem? (i := 15) rfl)) (Nat.le_of_ble_eq_true rfl) (Nat.le_of_ble_eq_true rfl) (Nat.le_of_ble_eq_true rfl) (Nat.le_of_ble_eq_true rfl) dX6_wishBy_90 ?_
        refine lv_topi (fun z25 ez25 => ?_)
        have tz25 : (z25.toInt ≤ 100) := by rw [ez25]; split <;> rename_i hcz25 <;> simp only [fa_lt, fa_le, ltv_0, ltv_100] at hcz25 ⊢ <;> omega
        refine va_mmax hx hb (by rw [hml]; exact hl.1.symm) hown (hts (.methodLink RX6 102 Lib.Math.max.name) (List.mem_of_getElem? (i := 16) rfl)) (hts (.static Lib.Math.max.name) (List.mem_of_getElem? (i := 17) rfl)) (hts (.initialized "java/lang/Math") (List.mem_of_getElem? (i := 7) rfl)) (hts (.code Lib.Math.max.name Lib.Math.max.code 2 (some .int)) (List.mem_of_getElem? (i := 18) rfl)) (Nat.le_of_ble_eq_true rfl) (Nat.le_of_ble_eq_true rfl) (Nat.le_of_ble_eq_true rfl) (Nat.le_of_ble_eq_true rfl) dX6_wishBy_93 ?_
        refine lv_topi (fun z26 ez26 => ?_)
        have tz26 : (0 ≤ z26.toInt ∧ z26.toInt ≤ 100) := by rw [ez26]; split <;> rename_i hcz26 <;> simp only [fa_lt, fa_le, ltv_0] at hcz26 ⊢ <;> omega
        have hP9 := hP.sub (ws' := [(a0, .inr (4, [g8, g9, g10, g11, g12, g13, g14, g15, g16, g17, .ref a4, .ref a5, .ref a6, g18, .ref a7, g19, g20, g21])), (a4, .inl (cB22, 6, .inl f23)), (a5, .inl (cB24, 6, .inl f25)), (a6, .inl (cB26, 6, .inl f27)), (a7, .inl (cB28, 6, .inl f29))]) [0, 1, 2, 3, 4] rfl
        have hD9 := hD.sub (ws' := [(a0, .inr (4, [g8, g9, g10, g11, g12, g13, g14, g15, g16, g17, .ref a4, .ref a5, .ref a6, g18, .ref a7, g19, g20, g21])), (a4, .inl (cB22, 6, .inl f23)), (a5, .inl (cB24, 6, .inl f25)), (a6, .inl (cB26, 6, .inl f27)), (a7, .inl (cB28, 6, .inl f29))]) [0, 1, 2, 3, 4] (by decide) rfl
        have hK9 := hK.sub (tys' := []) [] rfl
        exact W.iret (v := z26) hx hb hr (fun t ht hW => ⟨⟨z26, (), rfl, (by first | trivial | omega | (simp only [ltv_0]; omega)), by rw [ht]; exact hP9, va_K.moved hW.alike hK9, hD9⟩, hS.F ht⟩) hS.2.2 dX6_wishBy_96
    · simp only [fa_lt, fa_le, fa_eq, ltv_0] at c13
      obtain ⟨z27, ez27⟩ : ∃ y : Int32, y = z7 + 20 := ⟨_, rfl⟩
      refine lv_iinc (v := z27) (lv' := [(4, .int z27), (0, .ref a0), (1, .int k1), (2, .int k2), (3, .int k3)]) hx hb dX6_wishBy_50 hl (k := 0) rfl (by rw [ez27]; rfl) (by decide) rfl (fun ls hl => ?_)
      refine lv_aload_n hx hb dX6_wishBy_53 rfl (lv_at hl 1 rfl) ?_
      refine va_get (D := (dC, dI)) (ci := 4) (v := .ref a4) (C := RX6) (T := TX6) (N := 18) hx hb hts iX6_wishBy_X6 hown hK hP 0 rfl rfl 10 (by decide) (hts (.fieldLink RX6 43 "HookPier$Plan" "kind" "[I") (List.mem_of_getElem? (i := 9) rfl)) (fun _ h9 => h9) rfl dX6_wishBy_54 ?_
      refine lv_iload_n hx hb dX6_wishBy_57 rfl (lv_at hl 2 rfl) ?_
      refine va_iald hx hb hK hP 1 0 rfl rfl (vp_in_iff.mpr (by omega)) dX6_wishBy_58 ?_
      refine lv_topi (fun z28 ez28 => ?_)
      clear ez28
      refine lv_iconst (v := 2) hx hb dX6_wishBy_59 (by decide) ?_
      refine lv_icmp_eq (tgt := 85) hx hb dX6_wishBy_60 (by decide) (fun c29 => ?_) (fun c29 => ?_)
      · simp only [fa_lt, fa_le, fa_eq, ltv_0, ltv_2] at c29
        refine lv_iconst (v := 0) hx hb dX6_wishBy_85 (by decide) ?_
        refine lv_bipush (v := 100) hx hb dX6_wishBy_86 (by decide) ?_
        refine lv_iload hx hb dX6_wishBy_88 (lv_at hl 0 rfl) ?_
        refine va_mmin hx hb (by rw [hml]; exact hl.1.symm) hown (hts (.methodLink RX6 98 Lib.Math.min.name) (List.mem_of_getElem? (i := 13) rfl)) (hts (.static Lib.Math.min.name) (List.mem_of_getElem? (i := 14) rfl)) (hts (.initialized "java/lang/Math") (List.mem_of_getElem? (i := 7) rfl)) (hts (.code Lib.Math.min.name Lib.Math.min.code 2 (some .int)) (List.mem_of_getElem? (i := 15) rfl)) (Nat.le_of_ble_eq_true rfl) (Nat.le_of_ble_eq_true rfl) (Nat.le_of_ble_eq_true rfl) (Nat.le_of_ble_eq_true rfl) dX6_wishBy_90 ?_
        refine lv_topi (fun z30 ez30 => ?_)
        have tz30 : (z30.toInt ≤ 100) := by rw [ez30]; split <;> rename_i hcz30 <;> simp only [fa_lt, fa_le, ltv_0, ltv_100] at hcz30 ⊢ <;> omega
        refine va_mmax hx hb (by rw [hml]; exact hl.1.symm) hown (hts (.methodLink RX6 102 Lib.Math.max.name) (List.mem_of_getElem? (i := 16) rfl)) (hts (.static Lib.Math.max.name) (List.mem_of_getElem? (i := 17) rfl)) (hts (.initialized "java/lang/Math") (List.mem_of_getElem? (i := 7) rfl)) (hts (.code Lib.Math.max.name Lib.Math.max.code 2 (some .int)) (List.mem_of_getElem? (i := 18) rfl)) (Nat.le_of_ble_eq_true rfl) (Nat.le_of_ble_eq_true rfl) (Nat.le_of_ble_eq_true rfl) (Nat.le_of_ble_eq_true rfl) dX6_wishBy_93 ?_
        refine lv_topi (fun z31 ez31 => ?_)
        have tz31 : (0 ≤ z31.toInt ∧ z31.toInt ≤ 100) := by rw [ez31]; split <;> rename_i hcz31 <;> simp only [fa_lt, fa_le, ltv_0] at hcz31 ⊢ <;> omega
        have hP9 := hP.sub (ws' := [(a0, .inr (4, [g8, g9, g10, g11, g12, g13, g14, g15, g16, g17, .ref a4, .ref a5, .ref a6, g18, .ref a7, g19, g20, g21])), (a4, .inl (cB22, 6, .inl f23)), (a5, .inl (cB24, 6, .inl f25)), (a6, .inl (cB26, 6, .inl f27)), (a7, .inl (cB28, 6, .inl f29))]) [0, 1, 2, 3, 4] rfl
        have hD9 := hD.sub (ws' := [(a0, .inr (4, [g8, g9, g10, g11, g12, g13, g14, g15, g16, g17, .ref a4, .ref a5, .ref a6, g18, .ref a7, g19, g20, g21])), (a4, .inl (cB22, 6, .inl f23)), (a5, .inl (cB24, 6, .inl f25)), (a6, .inl (cB26, 6, .inl f27)), (a7, .inl (cB28, 6, .inl f29))]) [0, 1, 2, 3, 4] (by decide) rfl
        have hK9 := hK.sub (tys' := []) [] rfl
        exact W.iret (v := z31) hx hb hr (fun t ht hW => ⟨⟨z31, (), rfl, (by first | trivial | omega | (simp only [ltv_0]; omega)), by rw [ht]; exact hP9, va_K.moved hW.alike hK9, hD9⟩, hS.F ht⟩) hS.2.2 dX6_wishBy_96
      · simp only [fa_lt, fa_le, fa_eq, ltv_0, ltv_2] at c29
        refine lv_iload hx hb dX6_wishBy_63 (lv_at hl 0 rfl) ?_
        refine lv_bipush (v := 8) hx hb dX6_wishBy_65 (by decide) ?_
        refine lv_iload_n hx hb dX6_wishBy_67 rfl (lv_at hl 4 rfl) ?_
        refine cl_i (wc := []) (wr := [(a0, .inr (4, [g8, g9, g10, g11, g12, g13, g14, g15, g16, g17, .ref a4, .ref a5, .ref a6, g18, .ref a7, g19, g20, g21])), (a4, .inl (cB22, 6, .inl f23)), (a5, .inl (cB24, 6, .inl f25)), (a6, .inl (cB26, 6, .inl f27)), (a7, .inl (cB28, 6, .inl f29))]) (va_runSN (As := [.int k3]) (rest := [.int 8, .int z27]) ⟨hx, hb, hml, hown, hts⟩ (kX10_fathomsOf l dC dI k3  H.size) ⟨va_cnB 1 hts gX6_wishBy_2 rfl rfl rfl (hN.1 (.methodLinkNest RX6 80 yX10_fathomsOf "HookPier") (List.mem_of_getElem? (i := 14) rfl)) (hts (.initialized RX10) (List.mem_of_getElem? (i := 2) rfl)) (by decide +kernel) ⟨Nat.le_of_ble_eq_true rfl, Nat.le_of_ble_eq_true rfl⟩, (hts (.static yX10_fathomsOf) (List.mem_of_getElem? (i := 20) rfl)), trivial⟩ (PS (hP.sub (ws' := []) [] rfl) (hK.sub (tys' := []) [] rfl) (hD.sub (ws' := []) [] (by decide) rfl) hN) rfl rfl hl.1 rfl (lv_room (Nat.le_of_ble_eq_true rfl)) dX6_wishBy_68 ⟨Nat.le_of_ble_eq_true rfl, Nat.le_of_ble_eq_true rfl⟩) hP hD hK hS hA [] [0, 1, 2, 3, 4] rfl rfl (by decide) (by decide) (fun z32 _u H locs hw hP hD hK hS => ?_)
        have b33 := hw
        have hP : va_P (dC, dI) vwCl [(a0, .inr (4, [g8, g9, g10, g11, g12, g13, g14, g15, g16, g17, .ref a4, .ref a5, .ref a6, g18, .ref a7, g19, g20, g21])), (a4, .inl (cB22, 6, .inl f23)), (a5, .inl (cB24, 6, .inl f25)), (a6, .inl (cB26, 6, .inl f27)), (a7, .inl (cB28, 6, .inl f29))] H := hP
        have hD : va_D A [(a0, .inr (4, [g8, g9, g10, g11, g12, g13, g14, g15, g16, g17, .ref a4, .ref a5, .ref a6, g18, .ref a7, g19, g20, g21])), (a4, .inl (cB22, 6, .inl f23)), (a5, .inl (cB24, 6, .inl f25)), (a6, .inl (cB26, 6, .inl f27)), (a7, .inl (cB28, 6, .inl f29))] := hD
        have hK : va_K (dC, dI) vwCl [(cB22, .int), (cB24, .int), (cB26, .int), (cB28, .int)] s := hK
        refine lv_aload_n hx hb dX6_wishBy_71 rfl (lv_at hl 1 rfl) ?_
        refine va_get (D := (dC, dI)) (ci := 4) (v := .ref a6) (C := RX6) (T := TX6) (N := 18) hx hb hts iX6_wishBy_X6 hown hK hP 0 rfl rfl 12 (by decide) (hts (.fieldLink RX6 49 "HookPier$Plan" "depth" "[I") (List.mem_of_getElem? (i := 21) rfl)) (fun _ h9 => h9) rfl dX6_wishBy_72 ?_
        refine lv_iload_n hx hb dX6_wishBy_75 rfl (lv_at hl 2 rfl) ?_
        refine va_iald hx hb hK hP 3 2 rfl rfl (vp_in_iff.mpr (by omega)) dX6_wishBy_76 ?_
        refine lv_topi (fun z34 ez34 => ?_)
        clear ez34
        refine lv_isub hx hb dX6_wishBy_77 ?_
        refine lv_topi (fun z35 ez35 => ?_)
        clear ez35
        refine va_mabs hx hb (by rw [hml]; exact hl.1.symm) hown (hts (.methodLink RX6 89 Lib.Math.abs.name) (List.mem_of_getElem? (i := 5) rfl)) (hts (.static Lib.Math.abs.name) (List.mem_of_getElem? (i := 6) rfl)) (hts (.initialized "java/lang/Math") (List.mem_of_getElem? (i := 7) rfl)) (hts (.code Lib.Math.abs.name Lib.Math.abs.code 1 (some .int)) (List.mem_of_getElem? (i := 8) rfl)) (Nat.le_of_ble_eq_true rfl) (Nat.le_of_ble_eq_true rfl) (Nat.le_of_ble_eq_true rfl) (Nat.le_of_ble_eq_true rfl) dX6_wishBy_78 ?_
        refine lv_topi (fun z36 ez36 => ?_)
        clear ez36
        refine lv_imul hx hb dX6_wishBy_81 ?_
        refine lv_topi (fun z37 ez37 => ?_)
        clear ez37
        refine lv_isub hx hb dX6_wishBy_82 ?_
        refine lv_topi (fun z38 ez38 => ?_)
        clear ez38
        refine lv_istore (lv' := [(4, .int z38), (0, .ref a0), (1, .int k1), (2, .int k2), (3, .int k3)]) hx hb dX6_wishBy_83 hl (by decide) rfl (fun ls hl => ?_)
        refine lv_iconst (v := 0) hx hb dX6_wishBy_85 (by decide) ?_
        refine lv_bipush (v := 100) hx hb dX6_wishBy_86 (by decide) ?_
        refine lv_iload hx hb dX6_wishBy_88 (lv_at hl 0 rfl) ?_
        refine va_mmin hx hb (by rw [hml]; exact hl.1.symm) hown (hts (.methodLink RX6 98 Lib.Math.min.name) (List.mem_of_getElem? (i := 13) rfl)) (hts (.static Lib.Math.min.name) (List.mem_of_getElem? (i := 14) rfl)) (hts (.initialized "java/lang/Math") (List.mem_of_getElem? (i := 7) rfl)) (hts (.code Lib.Math.min.name Lib.Math.min.code 2 (some .int)) (List.mem_of_getElem? (i := 15) rfl)) (Nat.le_of_ble_eq_true rfl) (Nat.le_of_ble_eq_true rfl) (Nat.le_of_ble_eq_true rfl) (Nat.le_of_ble_eq_true rfl) dX6_wishBy_90 ?_
        refine lv_topi (fun z39 ez39 => ?_)
        have tz39 : (z39.toInt ≤ 100) := by rw [ez39]; split <;> rename_i hcz39 <;> simp only [fa_lt, fa_le, ltv_0, ltv_100] at hcz39 ⊢ <;> omega
        refine va_mmax hx hb (by rw [hml]; exact hl.1.symm) hown (hts (.methodLink RX6 102 Lib.Math.max.name) (List.mem_of_getElem? (i := 16) rfl)) (hts (.static Lib.Math.max.name) (List.mem_of_getElem? (i := 17) rfl)) (hts (.initialized "java/lang/Math") (List.mem_of_getElem? (i := 7) rfl)) (hts (.code Lib.Math.max.name Lib.Math.max.code 2 (some .int)) (List.mem_of_getElem? (i := 18) rfl)) (Nat.le_of_ble_eq_true rfl) (Nat.le_of_ble_eq_true rfl) (Nat.le_of_ble_eq_true rfl) (Nat.le_of_ble_eq_true rfl) dX6_wishBy_93 ?_
        refine lv_topi (fun z40 ez40 => ?_)
        have tz40 : (0 ≤ z40.toInt ∧ z40.toInt ≤ 100) := by rw [ez40]; split <;> rename_i hcz40 <;> simp only [fa_lt, fa_le, ltv_0] at hcz40 ⊢ <;> omega
        have hP9 := hP.sub (ws' := [(a0, .inr (4, [g8, g9, g10, g11, g12, g13, g14, g15, g16, g17, .ref a4, .ref a5, .ref a6, g18, .ref a7, g19, g20, g21])), (a4, .inl (cB22, 6, .inl f23)), (a5, .inl (cB24, 6, .inl f25)), (a6, .inl (cB26, 6, .inl f27)), (a7, .inl (cB28, 6, .inl f29))]) [0, 1, 2, 3, 4] rfl
        have hD9 := hD.sub (ws' := [(a0, .inr (4, [g8, g9, g10, g11, g12, g13, g14, g15, g16, g17, .ref a4, .ref a5, .ref a6, g18, .ref a7, g19, g20, g21])), (a4, .inl (cB22, 6, .inl f23)), (a5, .inl (cB24, 6, .inl f25)), (a6, .inl (cB26, 6, .inl f27)), (a7, .inl (cB28, 6, .inl f29))]) [0, 1, 2, 3, 4] (by decide) rfl
        have hK9 := hK.sub (tys' := []) [] rfl
        exact W.iret (v := z40) hx hb hr (fun t ht hW => ⟨⟨z40, (), rfl, (by first | trivial | omega | (simp only [ltv_0]; omega)), by rw [ht]; exact hP9, va_K.moved hW.alike hK9, hD9⟩, hS.F ht⟩) hS.2.2 dX6_wishBy_96
  · simp only [fa_lt, fa_le, fa_eq, ltv_0, ltv_3] at c9
    obtain ⟨z41, ez41⟩ : ∃ y : Int32, y = z7 + (-20) := ⟨_, rfl⟩
    refine lv_iinc (v := z41) (lv' := [(4, .int z41), (0, .ref a0), (1, .int k1), (2, .int k2), (3, .int k3)]) hx hb dX6_wishBy_31 hl (k := 0) rfl (by rw [ez41]; rfl) (by decide) rfl (fun ls hl => ?_)
    refine lv_goto (tgt := 53) hx hb dX6_wishBy_34 (by decide) ?_
    refine lv_aload_n hx hb dX6_wishBy_53 rfl (lv_at hl 1 rfl) ?_
    refine va_get (D := (dC, dI)) (ci := 4) (v := .ref a4) (C := RX6) (T := TX6) (N := 18) hx hb hts iX6_wishBy_X6 hown hK hP 0 rfl rfl 10 (by decide) (hts (.fieldLink RX6 43 "HookPier$Plan" "kind" "[I") (List.mem_of_getElem? (i := 9) rfl)) (fun _ h9 => h9) rfl dX6_wishBy_54 ?_
    refine lv_iload_n hx hb dX6_wishBy_57 rfl (lv_at hl 2 rfl) ?_
    refine va_iald hx hb hK hP 1 0 rfl rfl (vp_in_iff.mpr (by omega)) dX6_wishBy_58 ?_
    refine lv_topi (fun z42 ez42 => ?_)
    clear ez42
    refine lv_iconst (v := 2) hx hb dX6_wishBy_59 (by decide) ?_
    refine lv_icmp_eq (tgt := 85) hx hb dX6_wishBy_60 (by decide) (fun c43 => ?_) (fun c43 => ?_)
    · simp only [fa_lt, fa_le, fa_eq, ltv_0, ltv_2] at c43
      refine lv_iconst (v := 0) hx hb dX6_wishBy_85 (by decide) ?_
      refine lv_bipush (v := 100) hx hb dX6_wishBy_86 (by decide) ?_
      refine lv_iload hx hb dX6_wishBy_88 (lv_at hl 0 rfl) ?_
      refine va_mmin hx hb (by rw [hml]; exact hl.1.symm) hown (hts (.methodLink RX6 98 Lib.Math.min.name) (List.mem_of_getElem? (i := 13) rfl)) (hts (.static Lib.Math.min.name) (List.mem_of_getElem? (i := 14) rfl)) (hts (.initialized "java/lang/Math") (List.mem_of_getElem? (i := 7) rfl)) (hts (.code Lib.Math.min.name Lib.Math.min.code 2 (some .int)) (List.mem_of_getElem? (i := 15) rfl)) (Nat.le_of_ble_eq_true rfl) (Nat.le_of_ble_eq_true rfl) (Nat.le_of_ble_eq_true rfl) (Nat.le_of_ble_eq_true rfl) dX6_wishBy_90 ?_
      refine lv_topi (fun z44 ez44 => ?_)
      have tz44 : (z44.toInt ≤ 100) := by rw [ez44]; split <;> rename_i hcz44 <;> simp only [fa_lt, fa_le, ltv_0, ltv_100] at hcz44 ⊢ <;> omega
      refine va_mmax hx hb (by rw [hml]; exact hl.1.symm) hown (hts (.methodLink RX6 102 Lib.Math.max.name) (List.mem_of_getElem? (i := 16) rfl)) (hts (.static Lib.Math.max.name) (List.mem_of_getElem? (i := 17) rfl)) (hts (.initialized "java/lang/Math") (List.mem_of_getElem? (i := 7) rfl)) (hts (.code Lib.Math.max.name Lib.Math.max.code 2 (some .int)) (List.mem_of_getElem? (i := 18) rfl)) (Nat.le_of_ble_eq_true rfl) (Nat.le_of_ble_eq_true rfl) (Nat.le_of_ble_eq_true rfl) (Nat.le_of_ble_eq_true rfl) dX6_wishBy_93 ?_
      refine lv_topi (fun z45 ez45 => ?_)
      have tz45 : (0 ≤ z45.toInt ∧ z45.toInt ≤ 100) := by rw [ez45]; split <;> rename_i hcz45 <;> simp only [fa_lt, fa_le, ltv_0] at hcz45 ⊢ <;> omega
      have hP9 := hP.sub (ws' := [(a0, .inr (4, [g8, g9, g10, g11, g12, g13, g14, g15, g16, g17, .ref a4, .ref a5, .ref a6, g18, .ref a7, g19, g20, g21])), (a4, .inl (cB22, 6, .inl f23)), (a5, .inl (cB24, 6, .inl f25)), (a6, .inl (cB26, 6, .inl f27)), (a7, .inl (cB28, 6, .inl f29))]) [0, 1, 2, 3, 4] rfl
      have hD9 := hD.sub (ws' := [(a0, .inr (4, [g8, g9, g10, g11, g12, g13, g14, g15, g16, g17, .ref a4, .ref a5, .ref a6, g18, .ref a7, g19, g20, g21])), (a4, .inl (cB22, 6, .inl f23)), (a5, .inl (cB24, 6, .inl f25)), (a6, .inl (cB26, 6, .inl f27)), (a7, .inl (cB28, 6, .inl f29))]) [0, 1, 2, 3, 4] (by decide) rfl
      have hK9 := hK.sub (tys' := []) [] rfl
      exact W.iret (v := z45) hx hb hr (fun t ht hW => ⟨⟨z45, (), rfl, (by first | trivial | omega | (simp only [ltv_0]; omega)), by rw [ht]; exact hP9, va_K.moved hW.alike hK9, hD9⟩, hS.F ht⟩) hS.2.2 dX6_wishBy_96
    · simp only [fa_lt, fa_le, fa_eq, ltv_0, ltv_2] at c43
      refine lv_iload hx hb dX6_wishBy_63 (lv_at hl 0 rfl) ?_
      refine lv_bipush (v := 8) hx hb dX6_wishBy_65 (by decide) ?_
      refine lv_iload_n hx hb dX6_wishBy_67 rfl (lv_at hl 4 rfl) ?_
      refine cl_i (wc := []) (wr := [(a0, .inr (4, [g8, g9, g10, g11, g12, g13, g14, g15, g16, g17, .ref a4, .ref a5, .ref a6, g18, .ref a7, g19, g20, g21])), (a4, .inl (cB22, 6, .inl f23)), (a5, .inl (cB24, 6, .inl f25)), (a6, .inl (cB26, 6, .inl f27)), (a7, .inl (cB28, 6, .inl f29))]) (va_runSN (As := [.int k3]) (rest := [.int 8, .int z41]) ⟨hx, hb, hml, hown, hts⟩ (kX10_fathomsOf l dC dI k3  H.size) ⟨va_cnB 1 hts gX6_wishBy_2 rfl rfl rfl (hN.1 (.methodLinkNest RX6 80 yX10_fathomsOf "HookPier") (List.mem_of_getElem? (i := 14) rfl)) (hts (.initialized RX10) (List.mem_of_getElem? (i := 2) rfl)) (by decide +kernel) ⟨Nat.le_of_ble_eq_true rfl, Nat.le_of_ble_eq_true rfl⟩, (hts (.static yX10_fathomsOf) (List.mem_of_getElem? (i := 20) rfl)), trivial⟩ (PS (hP.sub (ws' := []) [] rfl) (hK.sub (tys' := []) [] rfl) (hD.sub (ws' := []) [] (by decide) rfl) hN) rfl rfl hl.1 rfl (lv_room (Nat.le_of_ble_eq_true rfl)) dX6_wishBy_68 ⟨Nat.le_of_ble_eq_true rfl, Nat.le_of_ble_eq_true rfl⟩) hP hD hK hS hA [] [0, 1, 2, 3, 4] rfl rfl (by decide) (by decide) (fun z46 _u H locs hw hP hD hK hS => ?_)
      have b47 := hw
      have hP : va_P (dC, dI) vwCl [(a0, .inr (4, [g8, g9, g10, g11, g12, g13, g14, g15, g16, g17, .ref a4, .ref a5, .ref a6, g18, .ref a7, g19, g20, g21])), (a4, .inl (cB22, 6, .inl f23)), (a5, .inl (cB24, 6, .inl f25)), (a6, .inl (cB26, 6, .inl f27)), (a7, .inl (cB28, 6, .inl f29))] H := hP
      have hD : va_D A [(a0, .inr (4, [g8, g9, g10, g11, g12, g13, g14, g15, g16, g17, .ref a4, .ref a5, .ref a6, g18, .ref a7, g19, g20, g21])), (a4, .inl (cB22, 6, .inl f23)), (a5, .inl (cB24, 6, .inl f25)), (a6, .inl (cB26, 6, .inl f27)), (a7, .inl (cB28, 6, .inl f29))] := hD
      have hK : va_K (dC, dI) vwCl [(cB22, .int), (cB24, .int), (cB26, .int), (cB28, .int)] s := hK
      refine lv_aload_n hx hb dX6_wishBy_71 rfl (lv_at hl 1 rfl) ?_
      refine va_get (D := (dC, dI)) (ci := 4) (v := .ref a6) (C := RX6) (T := TX6) (N := 18) hx hb hts iX6_wishBy_X6 hown hK hP 0 rfl rfl 12 (by decide) (hts (.fieldLink RX6 49 "HookPier$Plan" "depth" "[I") (List.mem_of_getElem? (i := 21) rfl)) (fun _ h9 => h9) rfl dX6_wishBy_72 ?_
      refine lv_iload_n hx hb dX6_wishBy_75 rfl (lv_at hl 2 rfl) ?_
      refine va_iald hx hb hK hP 3 2 rfl rfl (vp_in_iff.mpr (by omega)) dX6_wishBy_76 ?_
      refine lv_topi (fun z48 ez48 => ?_)
      clear ez48
      refine lv_isub hx hb dX6_wishBy_77 ?_
      refine lv_topi (fun z49 ez49 => ?_)
      clear ez49
      refine va_mabs hx hb (by rw [hml]; exact hl.1.symm) hown (hts (.methodLink RX6 89 Lib.Math.abs.name) (List.mem_of_getElem? (i := 5) rfl)) (hts (.static Lib.Math.abs.name) (List.mem_of_getElem? (i := 6) rfl)) (hts (.initialized "java/lang/Math") (List.mem_of_getElem? (i := 7) rfl)) (hts (.code Lib.Math.abs.name Lib.Math.abs.code 1 (some .int)) (List.mem_of_getElem? (i := 8) rfl)) (Nat.le_of_ble_eq_true rfl) (Nat.le_of_ble_eq_true rfl) (Nat.le_of_ble_eq_true rfl) (Nat.le_of_ble_eq_true rfl) dX6_wishBy_78 ?_
      refine lv_topi (fun z50 ez50 => ?_)
      clear ez50
      refine lv_imul hx hb dX6_wishBy_81 ?_
      refine lv_topi (fun z51 ez51 => ?_)
      clear ez51
      refine lv_isub hx hb dX6_wishBy_82 ?_
      refine lv_topi (fun z52 ez52 => ?_)
      clear ez52
      refine lv_istore (lv' := [(4, .int z52), (0, .ref a0), (1, .int k1), (2, .int k2), (3, .int k3)]) hx hb dX6_wishBy_83 hl (by decide) rfl (fun ls hl => ?_)
      refine lv_iconst (v := 0) hx hb dX6_wishBy_85 (by decide) ?_
      refine lv_bipush (v := 100) hx hb dX6_wishBy_86 (by decide) ?_
      refine lv_iload hx hb dX6_wishBy_88 (lv_at hl 0 rfl) ?_
      refine va_mmin hx hb (by rw [hml]; exact hl.1.symm) hown (hts (.methodLink RX6 98 Lib.Math.min.name) (List.mem_of_getElem? (i := 13) rfl)) (hts (.static Lib.Math.min.name) (List.mem_of_getElem? (i := 14) rfl)) (hts (.initialized "java/lang/Math") (List.mem_of_getElem? (i := 7) rfl)) (hts (.code Lib.Math.min.name Lib.Math.min.code 2 (some .int)) (List.mem_of_getElem? (i := 15) rfl)) (Nat.le_of_ble_eq_true rfl) (Nat.le_of_ble_eq_true rfl) (Nat.le_of_ble_eq_true rfl) (Nat.le_of_ble_eq_true rfl) dX6_wishBy_90 ?_
      refine lv_topi (fun z53 ez53 => ?_)
      have tz53 : (z53.toInt ≤ 100) := by rw [ez53]; split <;> rename_i hcz53 <;> simp only [fa_lt, fa_le, ltv_0, ltv_100] at hcz53 ⊢ <;> omega
      refine va_mmax hx hb (by rw [hml]; exact hl.1.symm) hown (hts (.methodLink RX6 102 Lib.Math.max.name) (List.mem_of_getElem? (i := 16) rfl)) (hts (.static Lib.Math.max.name) (List.mem_of_getElem? (i := 17) rfl)) (hts (.initialized "java/lang/Math") (List.mem_of_getElem? (i := 7) rfl)) (hts (.code Lib.Math.max.name Lib.Math.max.code 2 (some .int)) (List.mem_of_getElem? (i := 18) rfl)) (Nat.le_of_ble_eq_true rfl) (Nat.le_of_ble_eq_true rfl) (Nat.le_of_ble_eq_true rfl) (Nat.le_of_ble_eq_true rfl) dX6_wishBy_93 ?_
      refine lv_topi (fun z54 ez54 => ?_)
      have tz54 : (0 ≤ z54.toInt ∧ z54.toInt ≤ 100) := by rw [ez54]; split <;> rename_i hcz54 <;> simp only [fa_lt, fa_le, ltv_0] at hcz54 ⊢ <;> omega
      have hP9 := hP.sub (ws' := [(a0, .inr (4, [g8, g9, g10, g11, g12, g13, g14, g15, g16, g17, .ref a4, .ref a5, .ref a6, g18, .ref a7, g19, g20, g21])), (a4, .inl (cB22, 6, .inl f23)), (a5, .inl (cB24, 6, .inl f25)), (a6, .inl (cB26, 6, .inl f27)), (a7, .inl (cB28, 6, .inl f29))]) [0, 1, 2, 3, 4] rfl
      have hD9 := hD.sub (ws' := [(a0, .inr (4, [g8, g9, g10, g11, g12, g13, g14, g15, g16, g17, .ref a4, .ref a5, .ref a6, g18, .ref a7, g19, g20, g21])), (a4, .inl (cB22, 6, .inl f23)), (a5, .inl (cB24, 6, .inl f25)), (a6, .inl (cB26, 6, .inl f27)), (a7, .inl (cB28, 6, .inl f29))]) [0, 1, 2, 3, 4] (by decide) rfl
      have hK9 := hK.sub (tys' := []) [] rfl
      exact W.iret (v := z54) hx hb hr (fun t ht hW => ⟨⟨z54, (), rfl, (by first | trivial | omega | (simp only [ltv_0]; omega)), by rw [ht]; exact hP9, va_K.moved hW.alike hK9, hD9⟩, hS.F ht⟩) hS.2.2 dX6_wishBy_96
theorem dX6_wishFor_0 : decode cX6_wishFor 0 = .ok (.aload_n 0, 1) := by decide +kernel
theorem dX6_wishFor_1 : decode cX6_wishFor 1 = .ok (.iload_n 1, 1) := by decide +kernel
theorem dX6_wishFor_12 : decode cX6_wishFor 12 = .ok (.ireturn, 1) := by decide +kernel
theorem dX6_wishFor_2 : decode cX6_wishFor 2 = .ok (.aload_n 0, 1) := by decide +kernel
theorem dX6_wishFor_3 : decode cX6_wishFor 3 = .ok (.getfield 52, 3) := by decide +kernel
theorem dX6_wishFor_6 : decode cX6_wishFor 6 = .ok (.iload_n 1, 1) := by decide +kernel
theorem dX6_wishFor_7 : decode cX6_wishFor 7 = .ok (.iaload, 1) := by decide +kernel
theorem dX6_wishFor_8 : decode cX6_wishFor 8 = .ok (.iload_n 2, 1) := by decide +kernel
theorem dX6_wishFor_9 : decode cX6_wishFor 9 = .ok (.invokevirtual 94, 3) := by decide +kernel
def vX6_wishFor : List Cond := .code yX6_wishFor cX6_wishFor 3 (some .int) :: ([.fieldLink RX6 52 "HookPier$Plan" "hunger" "[I", .methodLink RX6 94 yX6_wishBy, .instanceMethod yX6_wishBy, .selects RX6 yX6_wishBy yX6_wishBy, .initialized RX6, .code yX6_wishBy cX6_wishBy 5 (some .int), .code yX10_spotOf cX10_spotOf 1 (some .int), .initialized RX10, .static yX10_spotOf, .fieldLink RX6 46 "HookPier$Plan" "at" "[I", .methodLink RX6 89 Lib.Math.abs.name, .static Lib.Math.abs.name, .initialized "java/lang/Math", .code Lib.Math.abs.name Lib.Math.abs.code 1 (some .int), .fieldLink RX6 43 "HookPier$Plan" "kind" "[I", .fieldLink RX6 55 "HookPier$Plan" "likes" "[I", .code yX10_baitOf cX10_baitOf 1 (some .int), .static yX10_baitOf, .methodLink RX6 98 Lib.Math.min.name, .static Lib.Math.min.name, .code Lib.Math.min.name Lib.Math.min.code 2 (some .int), .methodLink RX6 102 Lib.Math.max.name, .static Lib.Math.max.name, .code Lib.Math.max.name Lib.Math.max.code 2 (some .int), .code yX10_fathomsOf cX10_fathomsOf 1 (some .int), .static yX10_fathomsOf, .fieldLink RX6 49 "HookPier$Plan" "depth" "[I"] ++ wsX60)
theorem iX6_wishFor_X6 : ∀ w ∈ wsX60, w ∈ vX6_wishFor := fun _ h => List.mem_cons_of_mem _ (List.mem_append_right _ h)
set_option maxRecDepth 20000 in
theorem gX6_wishFor_0 : GoodIn vX6_wishFor (wsV RX6 94 RX6 yX6_wishBy vX6_wishBy) := goodIn_app (goodIn_r [.methodLink RX6 94 yX6_wishBy, .instanceMethod yX6_wishBy, .selects RX6 yX6_wishBy yX6_wishBy, .initialized RX6] [2, 3, 4, 5] (by decide +kernel) (by decide +kernel)) (goodIn_ca (goodIn_r (.code yX6_wishBy cX6_wishBy 5 (some .int) :: [.code yX10_spotOf cX10_spotOf 1 (some .int), .initialized RX10, .static yX10_spotOf, .fieldLink RX6 46 "HookPier$Plan" "at" "[I", .methodLink RX6 89 Lib.Math.abs.name, .static Lib.Math.abs.name, .initialized "java/lang/Math", .code Lib.Math.abs.name Lib.Math.abs.code 1 (some .int), .fieldLink RX6 43 "HookPier$Plan" "kind" "[I", .fieldLink RX6 55 "HookPier$Plan" "likes" "[I", .code yX10_baitOf cX10_baitOf 1 (some .int), .static yX10_baitOf, .methodLink RX6 98 Lib.Math.min.name, .static Lib.Math.min.name, .code Lib.Math.min.name Lib.Math.min.code 2 (some .int), .methodLink RX6 102 Lib.Math.max.name, .static Lib.Math.max.name, .code Lib.Math.max.name Lib.Math.max.code 2 (some .int), .code yX10_fathomsOf cX10_fathomsOf 1 (some .int), .static yX10_fathomsOf, .fieldLink RX6 49 "HookPier$Plan" "depth" "[I"]) [6, 7, 8, 9, 10, 11, 12, 13, 14, 15, 16, 17, 18, 19, 20, 21, 22, 23, 24, 25, 26, 27] (by decide +kernel) (by decide +kernel) : GoodIn vX6_wishFor (.code yX6_wishBy cX6_wishBy 5 (some .int) :: [.code yX10_spotOf cX10_spotOf 1 (some .int), .initialized RX10, .static yX10_spotOf, .fieldLink RX6 46 "HookPier$Plan" "at" "[I", .methodLink RX6 89 Lib.Math.abs.name, .static Lib.Math.abs.name, .initialized "java/lang/Math", .code Lib.Math.abs.name Lib.Math.abs.code 1 (some .int), .fieldLink RX6 43 "HookPier$Plan" "kind" "[I", .fieldLink RX6 55 "HookPier$Plan" "likes" "[I", .code yX10_baitOf cX10_baitOf 1 (some .int), .static yX10_baitOf, .methodLink RX6 98 Lib.Math.min.name, .static Lib.Math.min.name, .code Lib.Math.min.name Lib.Math.min.code 2 (some .int), .methodLink RX6 102 Lib.Math.max.name, .static Lib.Math.max.name, .code Lib.Math.max.name Lib.Math.max.code 2 (some .int), .code yX10_fathomsOf cX10_fathomsOf 1 (some .int), .static yX10_fathomsOf, .fieldLink RX6 49 "HookPier$Plan" "depth" "[I"])) (goodIn_sub iX6_wishFor_X6 (by decide +kernel)))
set_option maxHeartbeats 2000000 in
set_option maxRecDepth 100000 in
theorem kX6_wishFor (l : Launch) (dC : Nat → ClassId) (dI : Nat → Nat → Nat) (a0 : Nat) (k1 : Int32) (k2 : Int32) (a3 : Nat) (a4 : Nat) (a5 : Nat) (a6 : Nat) (a7 : Nat) (g8 : Value) (g9 : Value) (g10 : Value) (g11 : Value) (g12 : Value) (g13 : Value) (g14 : Value) (g15 : Value) (g16 : Value) (g17 : Value) (g18 : Value) (g19 : Value) (g20 : Value) (cB21 : ClassId) (f22 : Nat → Int32) (cB23 : ClassId) (f24 : Nat → Int32) (cB25 : ClassId) (f26 : Nat → Int32) (cB27 : ClassId) (f28 : Nat → Int32) (cB29 : ClassId) (f30 : Nat → Int32) (hk1 : (0 ≤ k1.toInt ∧ k1.toInt ≤ 5)) (sz : Nat) : Met l yX6_wishFor vX6_wishFor ({ frames := 2, cells := 0, slots := 0, locals := 45 }) (PC (dC, dI) [.ref a0, .int k1, .int k2] sz [(a0, .inr (4, [g8, g9, g10, g11, g12, g13, g14, g15, g16, g17, .ref a3, .ref a4, .ref a5, .ref a6, .ref a7, g18, g19, g20])), (a3, .inl (cB21, 6, .inl f22)), (a4, .inl (cB23, 6, .inl f24)), (a5, .inl (cB25, 6, .inl f26)), (a6, .inl (cB27, 6, .inl f28)), (a7, .inl (cB29, 6, .inl f30))] [(cB21, .int), (cB23, .int), (cB25, .int), (cB27, .int), (cB29, .int)]) (va_Qi (S := Unit) (fun (r : Int32) _ => (0 ≤ r.toInt ∧ r.toInt ≤ 100)) (fun _ t => BC (dC, dI) (va_A [(a0, .inr (4, [g8, g9, g10, g11, g12, g13, g14, g15, g16, g17, .ref a3, .ref a4, .ref a5, .ref a6, .ref a7, g18, g19, g20])), (a3, .inl (cB21, 6, .inl f22)), (a4, .inl (cB23, 6, .inl f24)), (a5, .inl (cB25, 6, .inl f26)), (a6, .inl (cB27, 6, .inl f28)), (a7, .inl (cB29, 6, .inl f30))] sz) [(a0, .inr (4, [g8, g9, g10, g11, g12, g13, g14, g15, g16, g17, .ref a3, .ref a4, .ref a5, .ref a6, .ref a7, g18, g19, g20])), (a3, .inl (cB21, 6, .inl f22)), (a4, .inl (cB23, 6, .inl f24)), (a5, .inl (cB25, 6, .inl f26)), (a6, .inl (cB27, 6, .inl f28)), (a7, .inl (cB29, 6, .inl f30))] [] t) (va_A [(a0, .inr (4, [g8, g9, g10, g11, g12, g13, g14, g15, g16, g17, .ref a3, .ref a4, .ref a5, .ref a6, .ref a7, g18, g19, g20])), (a3, .inl (cB21, 6, .inl f22)), (a4, .inl (cB23, 6, .inl f24)), (a5, .inl (cB25, 6, .inl f26)), (a6, .inl (cB27, 6, .inl f28)), (a7, .inl (cB29, 6, .inl f30))] sz)) 0 0 (va_A [(a0, .inr (4, [g8, g9, g10, g11, g12, g13, g14, g15, g16, g17, .ref a3, .ref a4, .ref a5, .ref a6, .ref a7, g18, g19, g20])), (a3, .inl (cB21, 6, .inl f22)), (a4, .inl (cB23, 6, .inl f24)), (a5, .inl (cB25, 6, .inl f26)), (a6, .inl (cB27, 6, .inl f28)), (a7, .inl (cB29, 6, .inl f30))] sz) := by
  refine Met.ofW (cc := cX6_wishFor) (maxL := 3) (ret := (some .int)) (by decide) rfl ?_
  intro p e s m args below meth c s₁ B hml hv
  obtain ⟨rfl, hsz, hP, hK, hD0, hN⟩ := hv
  have hx := B.exec
  have hb := B.bytes
  have hr := B.returns
  have hts := atoms_spec (ws := vX6_wishFor) B.pre
  have hown : s.vm.findClass RX6 = some m.cls := findClass_of_methodNamed B.named
  have hlocks := B.notSynchronized
  subst hsz
  have hD := hD0.self (sz := s.heap.size)
  generalize hAe : va_A [(a0, .inr (4, [g8, g9, g10, g11, g12, g13, g14, g15, g16, g17, .ref a3, .ref a4, .ref a5, .ref a6, .ref a7, g18, g19, g20])), (a3, .inl (cB21, 6, .inl f22)), (a4, .inl (cB23, 6, .inl f24)), (a5, .inl (cB25, 6, .inl f26)), (a6, .inl (cB27, 6, .inl f28)), (a7, .inl (cB29, 6, .inl f30))] s.heap.size = A at hD ⊢
  have hA : ∀ q : Nat, s.heap.size ≤ q → A q := fun q h => by rw [← hAe]; exact Or.inr h
  have hS : va_S A s.heap s.heap [] := va_S.rf
  have hP : va_P (dC, dI) vwCl [(a0, .inr (4, [g8, g9, g10, g11, g12, g13, g14, g15, g16, g17, .ref a3, .ref a4, .ref a5, .ref a6, .ref a7, g18, g19, g20])), (a3, .inl (cB21, 6, .inl f22)), (a4, .inl (cB23, 6, .inl f24)), (a5, .inl (cB25, 6, .inl f26)), (a6, .inl (cB27, 6, .inl f28)), (a7, .inl (cB29, 6, .inl f30))] s.heap := hP
  have hl := lv_entry ([.ref a0, .int k1, .int k2]) (n := 3) (Nat.le_of_ble_eq_true rfl)
  rw [lg_entry_eq]
  generalize (lg_sl ([.ref a0, .int k1, .int k2]) ++ List.replicate (3 - (lg_sl ([.ref a0, .int k1, .int k2])).length) Slot.unset).toArray = ls at hl ⊢
  have hl : lv_has ls 3 [(0, .ref a0), (1, .int k1), (2, .int k2)] := hl
  refine lv_aload_n hx hb dX6_wishFor_0 rfl (lv_at hl 0 rfl) ?_
  refine lv_iload_n hx hb dX6_wishFor_1 rfl (lv_at hl 1 rfl) ?_
  refine lv_aload_n hx hb dX6_wishFor_2 rfl (lv_at hl 0 rfl) ?_
  refine va_get (D := (dC, dI)) (ci := 4) (v := .ref a6) (C := RX6) (T := TX6) (N := 18) hx hb hts iX6_wishFor_X6 hown hK hP 0 rfl rfl 13 (by decide) (hts (.fieldLink RX6 52 "HookPier$Plan" "hunger" "[I") (List.mem_of_getElem? (i := 1) rfl)) (fun _ h9 => h9) rfl dX6_wishFor_3 ?_
  refine lv_iload_n hx hb dX6_wishFor_6 rfl (lv_at hl 1 rfl) ?_
  refine va_iald hx hb hK hP 4 3 rfl rfl (vp_in_iff.mpr (by omega)) dX6_wishFor_7 ?_
  refine lv_topi (fun z1 ez1 => ?_)
  clear ez1
  refine lv_iload_n hx hb dX6_wishFor_8 rfl (lv_at hl 2 rfl) ?_
  refine cl_i (wc := [(a0, .inr (4, [g8, g9, g10, g11, g12, g13, g14, g15, g16, g17, .ref a3, .ref a4, .ref a5, .ref a6, .ref a7, g18, g19, g20])), (a3, .inl (cB21, 6, .inl f22)), (a4, .inl (cB23, 6, .inl f24)), (a5, .inl (cB25, 6, .inl f26)), (a7, .inl (cB29, 6, .inl f30))]) (wr := [(a6, .inl (cB27, 6, .inl f28))]) (va_runV (As := [.int k1, .int z1, .int k2]) (rest := []) ⟨hx, hb, hml, hown, hts⟩ (kX6_wishBy l dC dI a0 k1 z1 k2 a3 a4 a5 a7 (g8) (g9) (g10) (g11) (g12) (g13) (g14) (g15) (g16) (g17) (.ref a6) (g18) (g19) (g20) cB21 f22 cB23 f24 cB25 f26 cB29 f30 (by first | omega | (simp only [ltv_0]; omega)) s.heap.size) (cwV 3 hts gX6_wishFor_0 rfl rfl rfl (by decide +kernel) ⟨Nat.le_of_ble_eq_true rfl, Nat.le_of_ble_eq_true rfl⟩) (PV (hP.sub (ws' := [(a0, .inr (4, [g8, g9, g10, g11, g12, g13, g14, g15, g16, g17, .ref a3, .ref a4, .ref a5, .ref a6, .ref a7, g18, g19, g20])), (a3, .inl (cB21, 6, .inl f22)), (a4, .inl (cB23, 6, .inl f24)), (a5, .inl (cB25, 6, .inl f26)), (a7, .inl (cB29, 6, .inl f30))]) [0, 1, 2, 3, 5] rfl) (hK.sub (tys' := [(cB21, .int), (cB23, .int), (cB25, .int), (cB29, .int)]) [0, 1, 2, 4] rfl) (hD.sub (ws' := [(a0, .inr (4, [g8, g9, g10, g11, g12, g13, g14, g15, g16, g17, .ref a3, .ref a4, .ref a5, .ref a6, .ref a7, g18, g19, g20])), (a3, .inl (cB21, 6, .inl f22)), (a4, .inl (cB23, 6, .inl f24)), (a5, .inl (cB25, 6, .inl f26)), (a7, .inl (cB29, 6, .inl f30))]) [0, 1, 2, 3, 5] (by decide) rfl) hN 0 rfl rfl) rfl rfl hl.1 rfl (lv_room (Nat.le_of_ble_eq_true rfl)) dX6_wishFor_9 ⟨Nat.le_of_ble_eq_true rfl, Nat.le_of_ble_eq_true rfl⟩) hP hD hK hS hA [0, 1, 2, 3, 5] [4] rfl rfl (by decide) (by decide) (fun z2 _u H locs hw hP hD hK hS => ?_)
  have b3 := hw
  have hP : va_P (dC, dI) vwCl [(a6, .inl (cB27, 6, .inl f28)), (a0, .inr (4, [g8, g9, g10, g11, g12, g13, g14, g15, g16, g17, .ref a3, .ref a4, .ref a5, .ref a6, .ref a7, g18, g19, g20])), (a3, .inl (cB21, 6, .inl f22)), (a4, .inl (cB23, 6, .inl f24)), (a5, .inl (cB25, 6, .inl f26)), (a7, .inl (cB29, 6, .inl f30))] H := hP
  have hD : va_D A [(a6, .inl (cB27, 6, .inl f28)), (a0, .inr (4, [g8, g9, g10, g11, g12, g13, g14, g15, g16, g17, .ref a3, .ref a4, .ref a5, .ref a6, .ref a7, g18, g19, g20])), (a3, .inl (cB21, 6, .inl f22)), (a4, .inl (cB23, 6, .inl f24)), (a5, .inl (cB25, 6, .inl f26)), (a7, .inl (cB29, 6, .inl f30))] := hD
  have hK : va_K (dC, dI) vwCl [(cB21, .int), (cB23, .int), (cB25, .int), (cB27, .int), (cB29, .int)] s := hK
  have hP9 := hP.sub (ws' := [(a0, .inr (4, [g8, g9, g10, g11, g12, g13, g14, g15, g16, g17, .ref a3, .ref a4, .ref a5, .ref a6, .ref a7, g18, g19, g20])), (a3, .inl (cB21, 6, .inl f22)), (a4, .inl (cB23, 6, .inl f24)), (a5, .inl (cB25, 6, .inl f26)), (a6, .inl (cB27, 6, .inl f28)), (a7, .inl (cB29, 6, .inl f30))]) [1, 2, 3, 4, 0, 5] rfl
  have hD9 := hD.sub (ws' := [(a0, .inr (4, [g8, g9, g10, g11, g12, g13, g14, g15, g16, g17, .ref a3, .ref a4, .ref a5, .ref a6, .ref a7, g18, g19, g20])), (a3, .inl (cB21, 6, .inl f22)), (a4, .inl (cB23, 6, .inl f24)), (a5, .inl (cB25, 6, .inl f26)), (a6, .inl (cB27, 6, .inl f28)), (a7, .inl (cB29, 6, .inl f30))]) [1, 2, 3, 4, 0, 5] (by decide) rfl
  have hK9 := hK.sub (tys' := []) [] rfl
  exact W.iret (v := z2) hx hb hr (fun t ht hW => ⟨⟨z2, (), rfl, (by first | trivial | omega | (simp only [ltv_0]; omega)), by rw [ht]; exact hP9, va_K.moved hW.alike hK9, hD9⟩, hS.F ht⟩) hS.2.2 dX6_wishFor_12
theorem dX6_worthAfter_0 : decode cX6_worthAfter 0 = .ok (.aload_n 0, 1) := by decide +kernel
theorem dX6_worthAfter_1 : decode cX6_worthAfter 1 = .ok (.getfield 43, 3) := by decide +kernel
theorem dX6_worthAfter_10 : decode cX6_worthAfter 10 = .ok (.aload_n 0, 1) := by decide +kernel
theorem dX6_worthAfter_11 : decode cX6_worthAfter 11 = .ok (.getfield 58, 3) := by decide +kernel
theorem dX6_worthAfter_14 : decode cX6_worthAfter 14 = .ok (.iload_n 1, 1) := by decide +kernel
theorem dX6_worthAfter_15 : decode cX6_worthAfter 15 = .ok (.iaload, 1) := by decide +kernel
theorem dX6_worthAfter_16 : decode cX6_worthAfter 16 = .ok (.ireturn, 1) := by decide +kernel
theorem dX6_worthAfter_17 : decode cX6_worthAfter 17 = .ok (.aload_n 0, 1) := by decide +kernel
theorem dX6_worthAfter_18 : decode cX6_worthAfter 18 = .ok (.getfield 43, 3) := by decide +kernel
theorem dX6_worthAfter_21 : decode cX6_worthAfter 21 = .ok (.iload_n 1, 1) := by decide +kernel
theorem dX6_worthAfter_22 : decode cX6_worthAfter 22 = .ok (.iaload, 1) := by decide +kernel
theorem dX6_worthAfter_23 : decode cX6_worthAfter 23 = .ok (.iconst 3, 1) := by decide +kernel
theorem dX6_worthAfter_24 : decode cX6_worthAfter 24 = .ok (.if_icmp .ne 17, 3) := by decide +kernel
theorem dX6_worthAfter_27 : decode cX6_worthAfter 27 = .ok (.bipush 99, 2) := by decide +kernel
theorem dX6_worthAfter_29 : decode cX6_worthAfter 29 = .ok (.aload_n 0, 1) := by decide +kernel
theorem dX6_worthAfter_30 : decode cX6_worthAfter 30 = .ok (.getfield 58, 3) := by decide +kernel
theorem dX6_worthAfter_33 : decode cX6_worthAfter 33 = .ok (.iload_n 1, 1) := by decide +kernel
theorem dX6_worthAfter_34 : decode cX6_worthAfter 34 = .ok (.iaload, 1) := by decide +kernel
theorem dX6_worthAfter_35 : decode cX6_worthAfter 35 = .ok (.iload_n 2, 1) := by decide +kernel
theorem dX6_worthAfter_36 : decode cX6_worthAfter 36 = .ok (.iadd, 1) := by decide +kernel
theorem dX6_worthAfter_37 : decode cX6_worthAfter 37 = .ok (.invokestatic 98, 3) := by decide +kernel
theorem dX6_worthAfter_4 : decode cX6_worthAfter 4 = .ok (.iload_n 1, 1) := by decide +kernel
theorem dX6_worthAfter_40 : decode cX6_worthAfter 40 = .ok (.ireturn, 1) := by decide +kernel
theorem dX6_worthAfter_41 : decode cX6_worthAfter 41 = .ok (.iconst 0, 1) := by decide +kernel
theorem dX6_worthAfter_42 : decode cX6_worthAfter 42 = .ok (.aload_n 0, 1) := by decide +kernel
theorem dX6_worthAfter_43 : decode cX6_worthAfter 43 = .ok (.getfield 58, 3) := by decide +kernel
theorem dX6_worthAfter_46 : decode cX6_worthAfter 46 = .ok (.iload_n 1, 1) := by decide +kernel
theorem dX6_worthAfter_47 : decode cX6_worthAfter 47 = .ok (.iaload, 1) := by decide +kernel
theorem dX6_worthAfter_48 : decode cX6_worthAfter 48 = .ok (.iconst 5, 1) := by decide +kernel
theorem dX6_worthAfter_49 : decode cX6_worthAfter 49 = .ok (.iload_n 2, 1) := by decide +kernel
theorem dX6_worthAfter_5 : decode cX6_worthAfter 5 = .ok (.iaload, 1) := by decide +kernel
theorem dX6_worthAfter_50 : decode cX6_worthAfter 50 = .ok (.imul, 1) := by decide +kernel
theorem dX6_worthAfter_51 : decode cX6_worthAfter 51 = .ok (.isub, 1) := by decide +kernel
theorem dX6_worthAfter_52 : decode cX6_worthAfter 52 = .ok (.invokestatic 102, 3) := by decide +kernel
theorem dX6_worthAfter_55 : decode cX6_worthAfter 55 = .ok (.ireturn, 1) := by decide +kernel
theorem dX6_worthAfter_6 : decode cX6_worthAfter 6 = .ok (.iconst 1, 1) := by decide +kernel
theorem dX6_worthAfter_7 : decode cX6_worthAfter 7 = .ok (.if_icmp .ne 10, 3) := by decide +kernel
def vX6_worthAfter : List Cond := .code yX6_worthAfter cX6_worthAfter 3 (some .int) :: ([.fieldLink RX6 43 "HookPier$Plan" "kind" "[I", .fieldLink RX6 58 "HookPier$Plan" "told" "[I", .methodLink RX6 102 Lib.Math.max.name, .static Lib.Math.max.name, .initialized "java/lang/Math", .code Lib.Math.max.name Lib.Math.max.code 2 (some .int), .methodLink RX6 98 Lib.Math.min.name, .static Lib.Math.min.name, .code Lib.Math.min.name Lib.Math.min.code 2 (some .int)] ++ wsX60)
theorem iX6_worthAfter_X6 : ∀ w ∈ wsX60, w ∈ vX6_worthAfter := fun _ h => List.mem_cons_of_mem _ (List.mem_append_right _ h)
set_option maxHeartbeats 2000000 in
set_option maxRecDepth 100000 in
theorem kX6_worthAfter (l : Launch) (dC : Nat → ClassId) (dI : Nat → Nat → Nat) (a0 : Nat) (k1 : Int32) (k2 : Int32) (a3 : Nat) (a4 : Nat) (g5 : Value) (g6 : Value) (g7 : Value) (g8 : Value) (g9 : Value) (g10 : Value) (g11 : Value) (g12 : Value) (g13 : Value) (g14 : Value) (g15 : Value) (g16 : Value) (g17 : Value) (g18 : Value) (g19 : Value) (g20 : Value) (cB21 : ClassId) (f22 : Nat → Int32) (cB23 : ClassId) (f24 : Nat → Int32) (hk1 : (0 ≤ k1.toInt ∧ k1.toInt ≤ 5)) (sz : Nat) : Met l yX6_worthAfter vX6_worthAfter ({ frames := 1, cells := 0, slots := 0, locals := 21 }) (PC (dC, dI) [.ref a0, .int k1, .int k2] sz [(a0, .inr (4, [g5, g6, g7, g8, g9, g10, g11, g12, g13, g14, .ref a3, g15, g16, g17, g18, .ref a4, g19, g20])), (a3, .inl (cB21, 6, .inl f22)), (a4, .inl (cB23, 6, .inl f24))] [(cB21, .int), (cB23, .int)]) (va_Qi (S := Unit) (fun (r : Int32) _ => True) (fun _ t => BC (dC, dI) (va_A [(a0, .inr (4, [g5, g6, g7, g8, g9, g10, g11, g12, g13, g14, .ref a3, g15, g16, g17, g18, .ref a4, g19, g20])), (a3, .inl (cB21, 6, .inl f22)), (a4, .inl (cB23, 6, .inl f24))] sz) [(a0, .inr (4, [g5, g6, g7, g8, g9, g10, g11, g12, g13, g14, .ref a3, g15, g16, g17, g18, .ref a4, g19, g20])), (a3, .inl (cB21, 6, .inl f22)), (a4, .inl (cB23, 6, .inl f24))] [] t) (va_A [(a0, .inr (4, [g5, g6, g7, g8, g9, g10, g11, g12, g13, g14, .ref a3, g15, g16, g17, g18, .ref a4, g19, g20])), (a3, .inl (cB21, 6, .inl f22)), (a4, .inl (cB23, 6, .inl f24))] sz)) 0 0 (va_A [(a0, .inr (4, [g5, g6, g7, g8, g9, g10, g11, g12, g13, g14, .ref a3, g15, g16, g17, g18, .ref a4, g19, g20])), (a3, .inl (cB21, 6, .inl f22)), (a4, .inl (cB23, 6, .inl f24))] sz) := by
  refine Met.ofW (cc := cX6_worthAfter) (maxL := 3) (ret := (some .int)) (by decide) rfl ?_
  intro p e s m args below meth c s₁ B hml hv
  obtain ⟨rfl, hsz, hP, hK, hD0, hN⟩ := hv
  have hx := B.exec
  have hb := B.bytes
  have hr := B.returns
  have hts := atoms_spec (ws := vX6_worthAfter) B.pre
  have hown : s.vm.findClass RX6 = some m.cls := findClass_of_methodNamed B.named
  have hlocks := B.notSynchronized
  subst hsz
  have hD := hD0.self (sz := s.heap.size)
  generalize hAe : va_A [(a0, .inr (4, [g5, g6, g7, g8, g9, g10, g11, g12, g13, g14, .ref a3, g15, g16, g17, g18, .ref a4, g19, g20])), (a3, .inl (cB21, 6, .inl f22)), (a4, .inl (cB23, 6, .inl f24))] s.heap.size = A at hD ⊢
  have hA : ∀ q : Nat, s.heap.size ≤ q → A q := fun q h => by rw [← hAe]; exact Or.inr h
  have hS : va_S A s.heap s.heap [] := va_S.rf
  have hP : va_P (dC, dI) vwCl [(a0, .inr (4, [g5, g6, g7, g8, g9, g10, g11, g12, g13, g14, .ref a3, g15, g16, g17, g18, .ref a4, g19, g20])), (a3, .inl (cB21, 6, .inl f22)), (a4, .inl (cB23, 6, .inl f24))] s.heap := hP
  have hl := lv_entry ([.ref a0, .int k1, .int k2]) (n := 3) (Nat.le_of_ble_eq_true rfl)
  rw [lg_entry_eq]
  generalize (lg_sl ([.ref a0, .int k1, .int k2]) ++ List.replicate (3 - (lg_sl ([.ref a0, .int k1, .int k2])).length) Slot.unset).toArray = ls at hl ⊢
  have hl : lv_has ls 3 [(0, .ref a0), (1, .int k1), (2, .int k2)] := hl
  refine lv_aload_n hx hb dX6_worthAfter_0 rfl (lv_at hl 0 rfl) ?_
  refine va_get (D := (dC, dI)) (ci := 4) (v := .ref a3) (C := RX6) (T := TX6) (N := 18) hx hb hts iX6_worthAfter_X6 hown hK hP 0 rfl rfl 10 (by decide) (hts (.fieldLink RX6 43 "HookPier$Plan" "kind" "[I") (List.mem_of_getElem? (i := 1) rfl)) (fun _ h9 => h9) rfl dX6_worthAfter_1 ?_
  refine lv_iload_n hx hb dX6_worthAfter_4 rfl (lv_at hl 1 rfl) ?_
  refine va_iald hx hb hK hP 1 0 rfl rfl (vp_in_iff.mpr (by omega)) dX6_worthAfter_5 ?_
  refine lv_topi (fun z1 ez1 => ?_)
  clear ez1
  refine lv_iconst (v := 1) hx hb dX6_worthAfter_6 (by decide) ?_
  refine lv_icmp_ne (tgt := 17) hx hb dX6_worthAfter_7 (by decide) (fun c2 => ?_) (fun c2 => ?_)
  · simp only [fa_lt, fa_le, fa_eq, ltv_0, ltv_1] at c2
    refine lv_aload_n hx hb dX6_worthAfter_17 rfl (lv_at hl 0 rfl) ?_
    refine va_get (D := (dC, dI)) (ci := 4) (v := .ref a3) (C := RX6) (T := TX6) (N := 18) hx hb hts iX6_worthAfter_X6 hown hK hP 0 rfl rfl 10 (by decide) (hts (.fieldLink RX6 43 "HookPier$Plan" "kind" "[I") (List.mem_of_getElem? (i := 1) rfl)) (fun _ h9 => h9) rfl dX6_worthAfter_18 ?_
    refine lv_iload_n hx hb dX6_worthAfter_21 rfl (lv_at hl 1 rfl) ?_
    refine va_iald hx hb hK hP 1 0 rfl rfl (vp_in_iff.mpr (by omega)) dX6_worthAfter_22 ?_
    refine lv_topi (fun z3 ez3 => ?_)
    clear ez3
    refine lv_iconst (v := 3) hx hb dX6_worthAfter_23 (by decide) ?_
    refine lv_icmp_ne (tgt := 41) hx hb dX6_worthAfter_24 (by decide) (fun c4 => ?_) (fun c4 => ?_)
    · simp only [fa_lt, fa_le, fa_eq, ltv_0, ltv_3] at c4
      refine lv_iconst (v := 0) hx hb dX6_worthAfter_41 (by decide) ?_
      refine lv_aload_n hx hb dX6_worthAfter_42 rfl (lv_at hl 0 rfl) ?_
      refine va_get (D := (dC, dI)) (ci := 4) (v := .ref a4) (C := RX6) (T := TX6) (N := 18) hx hb hts iX6_worthAfter_X6 hown hK hP 0 rfl rfl 15 (by decide) (hts (.fieldLink RX6 58 "HookPier$Plan" "told" "[I") (List.mem_of_getElem? (i := 2) rfl)) (fun _ h9 => h9) rfl dX6_worthAfter_43 ?_
      refine lv_iload_n hx hb dX6_worthAfter_46 rfl (lv_at hl 1 rfl) ?_
      refine va_iald hx hb hK hP 2 1 rfl rfl (vp_in_iff.mpr (by omega)) dX6_worthAfter_47 ?_
      refine lv_topi (fun z5 ez5 => ?_)
      clear ez5
      refine lv_iconst (v := 5) hx hb dX6_worthAfter_48 (by decide) ?_
      refine lv_iload_n hx hb dX6_worthAfter_49 rfl (lv_at hl 2 rfl) ?_
      refine lv_imul hx hb dX6_worthAfter_50 ?_
      refine lv_topi (fun z6 ez6 => ?_)
      clear ez6
      refine lv_isub hx hb dX6_worthAfter_51 ?_
      refine lv_topi (fun z7 ez7 => ?_)
      clear ez7
      refine va_mmax hx hb (by rw [hml]; exact hl.1.symm) hown (hts (.methodLink RX6 102 Lib.Math.max.name) (List.mem_of_getElem? (i := 3) rfl)) (hts (.static Lib.Math.max.name) (List.mem_of_getElem? (i := 4) rfl)) (hts (.initialized "java/lang/Math") (List.mem_of_getElem? (i := 5) rfl)) (hts (.code Lib.Math.max.name Lib.Math.max.code 2 (some .int)) (List.mem_of_getElem? (i := 6) rfl)) (Nat.le_of_ble_eq_true rfl) (Nat.le_of_ble_eq_true rfl) (Nat.le_of_ble_eq_true rfl) (Nat.le_of_ble_eq_true rfl) dX6_worthAfter_52 ?_
      refine lv_topi (fun z8 ez8 => ?_)
      have tz8 : (0 ≤ z8.toInt) := by rw [ez8]; split <;> rename_i hcz8 <;> simp only [fa_lt, fa_le, ltv_0] at hcz8 ⊢ <;> omega
      have hP9 := hP.sub (ws' := [(a0, .inr (4, [g5, g6, g7, g8, g9, g10, g11, g12, g13, g14, .ref a3, g15, g16, g17, g18, .ref a4, g19, g20])), (a3, .inl (cB21, 6, .inl f22)), (a4, .inl (cB23, 6, .inl f24))]) [0, 1, 2] rfl
      have hD9 := hD.sub (ws' := [(a0, .inr (4, [g5, g6, g7, g8, g9, g10, g11, g12, g13, g14, .ref a3, g15, g16, g17, g18, .ref a4, g19, g20])), (a3, .inl (cB21, 6, .inl f22)), (a4, .inl (cB23, 6, .inl f24))]) [0, 1, 2] (by decide) rfl
      have hK9 := hK.sub (tys' := []) [] rfl
      exact W.iret (v := z8) hx hb hr (fun t ht hW => ⟨⟨z8, (), rfl, trivial, by rw [ht]; exact hP9, va_K.moved hW.alike hK9, hD9⟩, hS.F ht⟩) hS.2.2 dX6_worthAfter_55
    · simp only [fa_lt, fa_le, fa_eq, ltv_0, ltv_3] at c4
      refine lv_bipush (v := 99) hx hb dX6_worthAfter_27 (by decide) ?_
      refine lv_aload_n hx hb dX6_worthAfter_29 rfl (lv_at hl 0 rfl) ?_
      refine va_get (D := (dC, dI)) (ci := 4) (v := .ref a4) (C := RX6) (T := TX6) (N := 18) hx hb hts iX6_worthAfter_X6 hown hK hP 0 rfl rfl 15 (by decide) (hts (.fieldLink RX6 58 "HookPier$Plan" "told" "[I") (List.mem_of_getElem? (i := 2) rfl)) (fun _ h9 => h9) rfl dX6_worthAfter_30 ?_
      refine lv_iload_n hx hb dX6_worthAfter_33 rfl (lv_at hl 1 rfl) ?_
      refine va_iald hx hb hK hP 2 1 rfl rfl (vp_in_iff.mpr (by omega)) dX6_worthAfter_34 ?_
      refine lv_topi (fun z9 ez9 => ?_)
      clear ez9
      refine lv_iload_n hx hb dX6_worthAfter_35 rfl (lv_at hl 2 rfl) ?_
      refine lv_iadd hx hb dX6_worthAfter_36 ?_
      refine lv_topi (fun z10 ez10 => ?_)
      clear ez10
      refine va_mmin hx hb (by rw [hml]; exact hl.1.symm) hown (hts (.methodLink RX6 98 Lib.Math.min.name) (List.mem_of_getElem? (i := 7) rfl)) (hts (.static Lib.Math.min.name) (List.mem_of_getElem? (i := 8) rfl)) (hts (.initialized "java/lang/Math") (List.mem_of_getElem? (i := 5) rfl)) (hts (.code Lib.Math.min.name Lib.Math.min.code 2 (some .int)) (List.mem_of_getElem? (i := 9) rfl)) (Nat.le_of_ble_eq_true rfl) (Nat.le_of_ble_eq_true rfl) (Nat.le_of_ble_eq_true rfl) (Nat.le_of_ble_eq_true rfl) dX6_worthAfter_37 ?_
      refine lv_topi (fun z11 ez11 => ?_)
      have tz11 : (z11.toInt ≤ 99) := by rw [ez11]; split <;> rename_i hcz11 <;> simp only [fa_lt, fa_le, ltv_0, ltv_99] at hcz11 ⊢ <;> omega
      have hP9 := hP.sub (ws' := [(a0, .inr (4, [g5, g6, g7, g8, g9, g10, g11, g12, g13, g14, .ref a3, g15, g16, g17, g18, .ref a4, g19, g20])), (a3, .inl (cB21, 6, .inl f22)), (a4, .inl (cB23, 6, .inl f24))]) [0, 1, 2] rfl
      have hD9 := hD.sub (ws' := [(a0, .inr (4, [g5, g6, g7, g8, g9, g10, g11, g12, g13, g14, .ref a3, g15, g16, g17, g18, .ref a4, g19, g20])), (a3, .inl (cB21, 6, .inl f22)), (a4, .inl (cB23, 6, .inl f24))]) [0, 1, 2] (by decide) rfl
      have hK9 := hK.sub (tys' := []) [] rfl
      exact W.iret (v := z11) hx hb hr (fun t ht hW => ⟨⟨z11, (), rfl, trivial, by rw [ht]; exact hP9, va_K.moved hW.alike hK9, hD9⟩, hS.F ht⟩) hS.2.2 dX6_worthAfter_40
  · simp only [fa_lt, fa_le, fa_eq, ltv_0, ltv_1] at c2
    refine lv_aload_n hx hb dX6_worthAfter_10 rfl (lv_at hl 0 rfl) ?_
    refine va_get (D := (dC, dI)) (ci := 4) (v := .ref a4) (C := RX6) (T := TX6) (N := 18) hx hb hts iX6_worthAfter_X6 hown hK hP 0 rfl rfl 15 (by decide) (hts (.fieldLink RX6 58 "HookPier$Plan" "told" "[I") (List.mem_of_getElem? (i := 2) rfl)) (fun _ h9 => h9) rfl dX6_worthAfter_11 ?_
    refine lv_iload_n hx hb dX6_worthAfter_14 rfl (lv_at hl 1 rfl) ?_
    refine va_iald hx hb hK hP 2 1 rfl rfl (vp_in_iff.mpr (by omega)) dX6_worthAfter_15 ?_
    refine lv_topi (fun z12 ez12 => ?_)
    clear ez12
    have hP9 := hP.sub (ws' := [(a0, .inr (4, [g5, g6, g7, g8, g9, g10, g11, g12, g13, g14, .ref a3, g15, g16, g17, g18, .ref a4, g19, g20])), (a3, .inl (cB21, 6, .inl f22)), (a4, .inl (cB23, 6, .inl f24))]) [0, 1, 2] rfl
    have hD9 := hD.sub (ws' := [(a0, .inr (4, [g5, g6, g7, g8, g9, g10, g11, g12, g13, g14, .ref a3, g15, g16, g17, g18, .ref a4, g19, g20])), (a3, .inl (cB21, 6, .inl f22)), (a4, .inl (cB23, 6, .inl f24))]) [0, 1, 2] (by decide) rfl
    have hK9 := hK.sub (tys' := []) [] rfl
    exact W.iret (v := z12) hx hb hr (fun t ht hW => ⟨⟨z12, (), rfl, trivial, by rw [ht]; exact hP9, va_K.moved hW.alike hK9, hD9⟩, hS.F ht⟩) hS.2.2 dX6_worthAfter_16
theorem dX6_questionBound_0 : decode cX6_questionBound 0 = .ok (.bipush 100, 2) := by decide +kernel
theorem dX6_questionBound_2 : decode cX6_questionBound 2 = .ok (.aload_n 0, 1) := by decide +kernel
theorem dX6_questionBound_3 : decode cX6_questionBound 3 = .ok (.getfield 9, 3) := by decide +kernel
theorem dX6_questionBound_6 : decode cX6_questionBound 6 = .ok (.imul, 1) := by decide +kernel
theorem dX6_questionBound_7 : decode cX6_questionBound 7 = .ok (.ireturn, 1) := by decide +kernel
def vX6_questionBound : List Cond := .code yX6_questionBound cX6_questionBound 1 (some .int) :: ([.fieldLink RX6 9 "HookPier$Plan" "spots" "I"] ++ wsX60)
theorem iX6_questionBound_X6 : ∀ w ∈ wsX60, w ∈ vX6_questionBound := fun _ h => List.mem_cons_of_mem _ (List.mem_append_right _ h)
set_option maxHeartbeats 2000000 in
set_option maxRecDepth 100000 in
theorem kX6_questionBound (l : Launch) (dC : Nat → ClassId) (dI : Nat → Nat → Nat) (a0 : Nat) (k1 : Int32) (g2 : Value) (g3 : Value) (g4 : Value) (g5 : Value) (g6 : Value) (g7 : Value) (g8 : Value) (g9 : Value) (g10 : Value) (g11 : Value) (g12 : Value) (g13 : Value) (g14 : Value) (g15 : Value) (g16 : Value) (g17 : Value) (g18 : Value) (hk1 : (0 ≤ k1.toInt ∧ k1.toInt ≤ 8)) (sz : Nat) : Met l yX6_questionBound vX6_questionBound ({ frames := 0, cells := 0, slots := 0, locals := 0 }) (PC (dC, dI) [.ref a0] sz [(a0, .inr (4, [.int k1, g2, g3, g4, g5, g6, g7, g8, g9, g10, g11, g12, g13, g14, g15, g16, g17, g18]))] []) (va_Qi (S := Unit) (fun (r : Int32) _ => (0 ≤ r.toInt ∧ r.toInt ≤ 800)) (fun _ t => BC (dC, dI) (va_A [(a0, .inr (4, [.int k1, g2, g3, g4, g5, g6, g7, g8, g9, g10, g11, g12, g13, g14, g15, g16, g17, g18]))] sz) [(a0, .inr (4, [.int k1, g2, g3, g4, g5, g6, g7, g8, g9, g10, g11, g12, g13, g14, g15, g16, g17, g18]))] [] t) (va_A [(a0, .inr (4, [.int k1, g2, g3, g4, g5, g6, g7, g8, g9, g10, g11, g12, g13, g14, g15, g16, g17, g18]))] sz)) 0 0 (va_A [(a0, .inr (4, [.int k1, g2, g3, g4, g5, g6, g7, g8, g9, g10, g11, g12, g13, g14, g15, g16, g17, g18]))] sz) := by
  refine Met.ofW (cc := cX6_questionBound) (maxL := 1) (ret := (some .int)) (by decide) rfl ?_
  intro p e s m args below meth c s₁ B hml hv
  obtain ⟨rfl, hsz, hP, hK, hD0, hN⟩ := hv
  have hx := B.exec
  have hb := B.bytes
  have hr := B.returns
  have hts := atoms_spec (ws := vX6_questionBound) B.pre
  have hown : s.vm.findClass RX6 = some m.cls := findClass_of_methodNamed B.named
  have hlocks := B.notSynchronized
  subst hsz
  have hD := hD0.self (sz := s.heap.size)
  generalize hAe : va_A [(a0, .inr (4, [.int k1, g2, g3, g4, g5, g6, g7, g8, g9, g10, g11, g12, g13, g14, g15, g16, g17, g18]))] s.heap.size = A at hD ⊢
  have hA : ∀ q : Nat, s.heap.size ≤ q → A q := fun q h => by rw [← hAe]; exact Or.inr h
  have hS : va_S A s.heap s.heap [] := va_S.rf
  have hP : va_P (dC, dI) vwCl [(a0, .inr (4, [.int k1, g2, g3, g4, g5, g6, g7, g8, g9, g10, g11, g12, g13, g14, g15, g16, g17, g18]))] s.heap := hP
  have hl := lv_entry ([.ref a0]) (n := 1) (Nat.le_of_ble_eq_true rfl)
  rw [lg_entry_eq]
  generalize (lg_sl ([.ref a0]) ++ List.replicate (1 - (lg_sl ([.ref a0])).length) Slot.unset).toArray = ls at hl ⊢
  have hl : lv_has ls 1 [(0, .ref a0)] := hl
  refine lv_bipush (v := 100) hx hb dX6_questionBound_0 (by decide) ?_
  refine lv_aload_n hx hb dX6_questionBound_2 rfl (lv_at hl 0 rfl) ?_
  refine va_get (D := (dC, dI)) (ci := 4) (v := .int k1) (C := RX6) (T := TX6) (N := 18) hx hb hts iX6_questionBound_X6 hown hK hP 0 rfl rfl 0 (by decide) (hts (.fieldLink RX6 9 "HookPier$Plan" "spots" "I") (List.mem_of_getElem? (i := 1) rfl)) (fun _ h9 => h9) rfl dX6_questionBound_3 ?_
  refine lv_imul hx hb dX6_questionBound_6 ?_
  refine lv_topi (fun z1 ez1 => ?_)
  have tz1 : z1.toInt = 100 * k1.toInt := by rw [ez1]; rw [imul_t (by first | omega | (simp only [ltv_0, ltv_100]; omega)) (by first | omega | (simp only [ltv_0, ltv_100]; omega))]; first | done | (simp only [ltv_0, ltv_100])
  have hP9 := hP.sub (ws' := [(a0, .inr (4, [.int k1, g2, g3, g4, g5, g6, g7, g8, g9, g10, g11, g12, g13, g14, g15, g16, g17, g18]))]) [0] rfl
  have hD9 := hD.sub (ws' := [(a0, .inr (4, [.int k1, g2, g3, g4, g5, g6, g7, g8, g9, g10, g11, g12, g13, g14, g15, g16, g17, g18]))]) [0] (by decide) rfl
  have hK9 := hK.sub (tys' := []) [] rfl
  exact W.iret (v := z1) hx hb hr (fun t ht hW => ⟨⟨z1, (), rfl, (by first | trivial | omega | (simp only [ltv_0]; omega)), by rw [ht]; exact hP9, va_K.moved hW.alike hK9, hD9⟩, hS.F ht⟩) hS.2.2 dX6_questionBound_7
theorem dX6_clear_0 : decode cX6_clear 0 = .ok (.aload_n 0, 1) := by decide +kernel
theorem dX6_clear_1 : decode cX6_clear 1 = .ok (.iconst 0, 1) := by decide +kernel
theorem dX6_clear_10 : decode cX6_clear 10 = .ok (.aload_n 0, 1) := by decide +kernel
theorem dX6_clear_11 : decode cX6_clear 11 = .ok (.iconst 0, 1) := by decide +kernel
theorem dX6_clear_12 : decode cX6_clear 12 = .ok (.putfield 24, 3) := by decide +kernel
theorem dX6_clear_15 : decode cX6_clear 15 = .ok (.aload_n 0, 1) := by decide +kernel
theorem dX6_clear_16 : decode cX6_clear 16 = .ok (.iconst 0, 1) := by decide +kernel
theorem dX6_clear_17 : decode cX6_clear 17 = .ok (.putfield 27, 3) := by decide +kernel
theorem dX6_clear_2 : decode cX6_clear 2 = .ok (.putfield 9, 3) := by decide +kernel
theorem dX6_clear_20 : decode cX6_clear 20 = .ok (.aload_n 0, 1) := by decide +kernel
theorem dX6_clear_21 : decode cX6_clear 21 = .ok (.iconst 0, 1) := by decide +kernel
theorem dX6_clear_22 : decode cX6_clear 22 = .ok (.putfield 30, 3) := by decide +kernel
theorem dX6_clear_25 : decode cX6_clear 25 = .ok (.aload_n 0, 1) := by decide +kernel
theorem dX6_clear_26 : decode cX6_clear 26 = .ok (.iconst 0, 1) := by decide +kernel
theorem dX6_clear_27 : decode cX6_clear 27 = .ok (.putfield 33, 3) := by decide +kernel
theorem dX6_clear_30 : decode cX6_clear 30 = .ok (.aload_n 0, 1) := by decide +kernel
theorem dX6_clear_31 : decode cX6_clear 31 = .ok (.iconst (-1), 1) := by decide +kernel
theorem dX6_clear_32 : decode cX6_clear 32 = .ok (.putfield 36, 3) := by decide +kernel
theorem dX6_clear_35 : decode cX6_clear 35 = .ok (.return_, 1) := by decide +kernel
theorem dX6_clear_5 : decode cX6_clear 5 = .ok (.aload_n 0, 1) := by decide +kernel
theorem dX6_clear_6 : decode cX6_clear 6 = .ok (.iconst 0, 1) := by decide +kernel
theorem dX6_clear_7 : decode cX6_clear 7 = .ok (.putfield 15, 3) := by decide +kernel
def vX6_clear : List Cond := .code yX6_clear cX6_clear 1 none :: ([.fieldLink RX6 9 "HookPier$Plan" "spots" "I", .fieldLink RX6 15 "HookPier$Plan" "deep" "I", .fieldLink RX6 24 "HookPier$Plan" "baits" "I", .fieldLink RX6 27 "HookPier$Plan" "askers" "I", .fieldLink RX6 30 "HookPier$Plan" "answers" "I", .fieldLink RX6 33 "HookPier$Plan" "bites" "I", .fieldLink RX6 36 "HookPier$Plan" "darkHunger" "I"] ++ wsX60)
theorem iX6_clear_X6 : ∀ w ∈ wsX60, w ∈ vX6_clear := fun _ h => List.mem_cons_of_mem _ (List.mem_append_right _ h)
set_option maxHeartbeats 2000000 in
set_option maxRecDepth 100000 in
theorem kX6_clear (l : Launch) (dC : Nat → ClassId) (dI : Nat → Nat → Nat) (a0 : Nat) (g1 : Value) (g2 : Value) (g3 : Value) (g4 : Value) (g5 : Value) (g6 : Value) (g7 : Value) (g8 : Value) (g9 : Value) (g10 : Value) (g11 : Value) (g12 : Value) (g13 : Value) (g14 : Value) (g15 : Value) (g16 : Value) (g17 : Value) (g18 : Value) (sz : Nat) : Met l yX6_clear vX6_clear ({ frames := 0, cells := 0, slots := 0, locals := 0 }) (PC (dC, dI) [.ref a0] sz [(a0, .inr (4, [g1, g2, g3, g4, g5, g6, g7, g8, g9, g10, g11, g12, g13, g14, g15, g16, g17, g18]))] []) (va_Qv (S := Unit) (fun _ => True) (fun _ t => BC (dC, dI) (va_A [(a0, .inr (4, [g1, g2, g3, g4, g5, g6, g7, g8, g9, g10, g11, g12, g13, g14, g15, g16, g17, g18]))] sz) [(a0, .inr (4, [.int 0, .int 0, g3, g4, .int 0, .int 0, .int 0, .int 0, .int (-1), g10, g11, g12, g13, g14, g15, g16, g17, g18]))] [] t) (va_A [(a0, .inr (4, [g1, g2, g3, g4, g5, g6, g7, g8, g9, g10, g11, g12, g13, g14, g15, g16, g17, g18]))] sz)) 0 0 (va_A [(a0, .inr (4, [g1, g2, g3, g4, g5, g6, g7, g8, g9, g10, g11, g12, g13, g14, g15, g16, g17, g18]))] sz) := by
  refine Met.ofW (cc := cX6_clear) (maxL := 1) (ret := none) (by decide) rfl ?_
  intro p e s m args below meth c s₁ B hml hv
  obtain ⟨rfl, hsz, hP, hK, hD0, hN⟩ := hv
  have hx := B.exec
  have hb := B.bytes
  have hr := B.returns
  have hts := atoms_spec (ws := vX6_clear) B.pre
  have hown : s.vm.findClass RX6 = some m.cls := findClass_of_methodNamed B.named
  have hlocks := B.notSynchronized
  subst hsz
  have hD := hD0.self (sz := s.heap.size)
  generalize hAe : va_A [(a0, .inr (4, [g1, g2, g3, g4, g5, g6, g7, g8, g9, g10, g11, g12, g13, g14, g15, g16, g17, g18]))] s.heap.size = A at hD ⊢
  have hA : ∀ q : Nat, s.heap.size ≤ q → A q := fun q h => by rw [← hAe]; exact Or.inr h
  have hS : va_S A s.heap s.heap [] := va_S.rf
  have hP : va_P (dC, dI) vwCl [(a0, .inr (4, [g1, g2, g3, g4, g5, g6, g7, g8, g9, g10, g11, g12, g13, g14, g15, g16, g17, g18]))] s.heap := hP
  have hl := lv_entry ([.ref a0]) (n := 1) (Nat.le_of_ble_eq_true rfl)
  rw [lg_entry_eq]
  generalize (lg_sl ([.ref a0]) ++ List.replicate (1 - (lg_sl ([.ref a0])).length) Slot.unset).toArray = ls at hl ⊢
  have hl : lv_has ls 1 [(0, .ref a0)] := hl
  refine lv_aload_n hx hb dX6_clear_0 rfl (lv_at hl 0 rfl) ?_
  refine lv_iconst (v := 0) hx hb dX6_clear_1 (by decide) ?_
  refine va_put (D := (dC, dI)) (ci := 4) (v := .int 0) (ty := .int) (C := RX6) (T := TX6) (N := 18) hx hb hts iX6_clear_X6 tyX6 tyX6_ok nmX6 hown hK hP hD hS 0 rfl rfl 0 (by decide) (hts (.fieldLink RX6 9 "HookPier$Plan" "spots" "I") (List.mem_of_getElem? (i := 1) rfl)) (fun _ h9 => h9) rfl (by decide +kernel) rfl rfl (Nat.le_of_ble_eq_true rfl) dX6_clear_2 (fun H locs hP hD hS => ?_)
  have hP : va_P (dC, dI) vwCl [(a0, .inr (4, [.int 0, g2, g3, g4, g5, g6, g7, g8, g9, g10, g11, g12, g13, g14, g15, g16, g17, g18]))] H := hP
  have hD : va_D A [(a0, .inr (4, [.int 0, g2, g3, g4, g5, g6, g7, g8, g9, g10, g11, g12, g13, g14, g15, g16, g17, g18]))] := hD
  refine lv_aload_n hx hb dX6_clear_5 rfl (lv_at hl 0 rfl) ?_
  refine lv_iconst (v := 0) hx hb dX6_clear_6 (by decide) ?_
  refine va_put (D := (dC, dI)) (ci := 4) (v := .int 0) (ty := .int) (C := RX6) (T := TX6) (N := 18) hx hb hts iX6_clear_X6 tyX6 tyX6_ok nmX6 hown hK hP hD hS 0 rfl rfl 1 (by decide) (hts (.fieldLink RX6 15 "HookPier$Plan" "deep" "I") (List.mem_of_getElem? (i := 2) rfl)) (fun _ h9 => h9) rfl (by decide +kernel) rfl rfl (Nat.le_of_ble_eq_true rfl) dX6_clear_7 (fun H locs hP hD hS => ?_)
  have hP : va_P (dC, dI) vwCl [(a0, .inr (4, [.int 0, .int 0, g3, g4, g5, g6, g7, g8, g9, g10, g11, g12, g13, g14, g15, g16, g17, g18]))] H := hP
  have hD : va_D A [(a0, .inr (4, [.int 0, .int 0, g3, g4, g5, g6, g7, g8, g9, g10, g11, g12, g13, g14, g15, g16, g17, g18]))] := hD
  refine lv_aload_n hx hb dX6_clear_10 rfl (lv_at hl 0 rfl) ?_
  refine lv_iconst (v := 0) hx hb dX6_clear_11 (by decide) ?_
  refine va_put (D := (dC, dI)) (ci := 4) (v := .int 0) (ty := .int) (C := RX6) (T := TX6) (N := 18) hx hb hts iX6_clear_X6 tyX6 tyX6_ok nmX6 hown hK hP hD hS 0 rfl rfl 4 (by decide) (hts (.fieldLink RX6 24 "HookPier$Plan" "baits" "I") (List.mem_of_getElem? (i := 3) rfl)) (fun _ h9 => h9) rfl (by decide +kernel) rfl rfl (Nat.le_of_ble_eq_true rfl) dX6_clear_12 (fun H locs hP hD hS => ?_)
  have hP : va_P (dC, dI) vwCl [(a0, .inr (4, [.int 0, .int 0, g3, g4, .int 0, g6, g7, g8, g9, g10, g11, g12, g13, g14, g15, g16, g17, g18]))] H := hP
  have hD : va_D A [(a0, .inr (4, [.int 0, .int 0, g3, g4, .int 0, g6, g7, g8, g9, g10, g11, g12, g13, g14, g15, g16, g17, g18]))] := hD
  refine lv_aload_n hx hb dX6_clear_15 rfl (lv_at hl 0 rfl) ?_
  refine lv_iconst (v := 0) hx hb dX6_clear_16 (by decide) ?_
  refine va_put (D := (dC, dI)) (ci := 4) (v := .int 0) (ty := .int) (C := RX6) (T := TX6) (N := 18) hx hb hts iX6_clear_X6 tyX6 tyX6_ok nmX6 hown hK hP hD hS 0 rfl rfl 5 (by decide) (hts (.fieldLink RX6 27 "HookPier$Plan" "askers" "I") (List.mem_of_getElem? (i := 4) rfl)) (fun _ h9 => h9) rfl (by decide +kernel) rfl rfl (Nat.le_of_ble_eq_true rfl) dX6_clear_17 (fun H locs hP hD hS => ?_)
  have hP : va_P (dC, dI) vwCl [(a0, .inr (4, [.int 0, .int 0, g3, g4, .int 0, .int 0, g7, g8, g9, g10, g11, g12, g13, g14, g15, g16, g17, g18]))] H := hP
  have hD : va_D A [(a0, .inr (4, [.int 0, .int 0, g3, g4, .int 0, .int 0, g7, g8, g9, g10, g11, g12, g13, g14, g15, g16, g17, g18]))] := hD
  refine lv_aload_n hx hb dX6_clear_20 rfl (lv_at hl 0 rfl) ?_
  refine lv_iconst (v := 0) hx hb dX6_clear_21 (by decide) ?_
  refine va_put (D := (dC, dI)) (ci := 4) (v := .int 0) (ty := .int) (C := RX6) (T := TX6) (N := 18) hx hb hts iX6_clear_X6 tyX6 tyX6_ok nmX6 hown hK hP hD hS 0 rfl rfl 6 (by decide) (hts (.fieldLink RX6 30 "HookPier$Plan" "answers" "I") (List.mem_of_getElem? (i := 5) rfl)) (fun _ h9 => h9) rfl (by decide +kernel) rfl rfl (Nat.le_of_ble_eq_true rfl) dX6_clear_22 (fun H locs hP hD hS => ?_)
  have hP : va_P (dC, dI) vwCl [(a0, .inr (4, [.int 0, .int 0, g3, g4, .int 0, .int 0, .int 0, g8, g9, g10, g11, g12, g13, g14, g15, g16, g17, g18]))] H := hP
  have hD : va_D A [(a0, .inr (4, [.int 0, .int 0, g3, g4, .int 0, .int 0, .int 0, g8, g9, g10, g11, g12, g13, g14, g15, g16, g17, g18]))] := hD
  refine lv_aload_n hx hb dX6_clear_25 rfl (lv_at hl 0 rfl) ?_
  refine lv_iconst (v := 0) hx hb dX6_clear_26 (by decide) ?_
  refine va_put (D := (dC, dI)) (ci := 4) (v := .int 0) (ty := .int) (C := RX6) (T := TX6) (N := 18) hx hb hts iX6_clear_X6 tyX6 tyX6_ok nmX6 hown hK hP hD hS 0 rfl rfl 7 (by decide) (hts (.fieldLink RX6 33 "HookPier$Plan" "bites" "I") (List.mem_of_getElem? (i := 6) rfl)) (fun _ h9 => h9) rfl (by decide +kernel) rfl rfl (Nat.le_of_ble_eq_true rfl) dX6_clear_27 (fun H locs hP hD hS => ?_)
  have hP : va_P (dC, dI) vwCl [(a0, .inr (4, [.int 0, .int 0, g3, g4, .int 0, .int 0, .int 0, .int 0, g9, g10, g11, g12, g13, g14, g15, g16, g17, g18]))] H := hP
  have hD : va_D A [(a0, .inr (4, [.int 0, .int 0, g3, g4, .int 0, .int 0, .int 0, .int 0, g9, g10, g11, g12, g13, g14, g15, g16, g17, g18]))] := hD
  refine lv_aload_n hx hb dX6_clear_30 rfl (lv_at hl 0 rfl) ?_
  refine lv_iconst (v := (-1)) hx hb dX6_clear_31 (by decide) ?_
  refine va_put (D := (dC, dI)) (ci := 4) (v := .int (-1)) (ty := .int) (C := RX6) (T := TX6) (N := 18) hx hb hts iX6_clear_X6 tyX6 tyX6_ok nmX6 hown hK hP hD hS 0 rfl rfl 8 (by decide) (hts (.fieldLink RX6 36 "HookPier$Plan" "darkHunger" "I") (List.mem_of_getElem? (i := 7) rfl)) (fun _ h9 => h9) rfl (by decide +kernel) rfl rfl (Nat.le_of_ble_eq_true rfl) dX6_clear_32 (fun H locs hP hD hS => ?_)
  have hP : va_P (dC, dI) vwCl [(a0, .inr (4, [.int 0, .int 0, g3, g4, .int 0, .int 0, .int 0, .int 0, .int (-1), g10, g11, g12, g13, g14, g15, g16, g17, g18]))] H := hP
  have hD : va_D A [(a0, .inr (4, [.int 0, .int 0, g3, g4, .int 0, .int 0, .int 0, .int 0, .int (-1), g10, g11, g12, g13, g14, g15, g16, g17, g18]))] := hD
  have hP9 := hP.sub (ws' := [(a0, .inr (4, [.int 0, .int 0, g3, g4, .int 0, .int 0, .int 0, .int 0, .int (-1), g10, g11, g12, g13, g14, g15, g16, g17, g18]))]) [0] rfl
  have hD9 := hD.sub (ws' := [(a0, .inr (4, [.int 0, .int 0, g3, g4, .int 0, .int 0, .int 0, .int 0, .int (-1), g10, g11, g12, g13, g14, g15, g16, g17, g18]))]) [0] (by decide) rfl
  have hK9 := hK.sub (tys' := []) [] rfl
  exact W.vret hx hb hr (fun t ht hW => ⟨⟨(), rfl, trivial, by rw [ht]; exact hP9, va_K.moved hW.alike hK9, hD9⟩, hS.F ht⟩) hS.2.2 dX6_clear_35
theorem dX4_landedBits_0 : decode cX4_landedBits 0 = .ok (.iconst 0, 1) := by decide +kernel
theorem dX4_landedBits_1 : decode cX4_landedBits 1 = .ok (.istore_n 3, 1) := by decide +kernel
theorem dX4_landedBits_11 : decode cX4_landedBits 11 = .ok (.aload_n 0, 1) := by decide +kernel
theorem dX4_landedBits_12 : decode cX4_landedBits 12 = .ok (.getfield 21, 3) := by decide +kernel
theorem dX4_landedBits_15 : decode cX4_landedBits 15 = .ok (.iload 4, 2) := by decide +kernel
theorem dX4_landedBits_17 : decode cX4_landedBits 17 = .ok (.iaload, 1) := by decide +kernel
theorem dX4_landedBits_18 : decode cX4_landedBits 18 = .ok (.ifCond .eq 21, 3) := by decide +kernel
theorem dX4_landedBits_2 : decode cX4_landedBits 2 = .ok (.iconst 0, 1) := by decide +kernel
theorem dX4_landedBits_21 : decode cX4_landedBits 21 = .ok (.aload_n 0, 1) := by decide +kernel
theorem dX4_landedBits_22 : decode cX4_landedBits 22 = .ok (.getfield 28, 3) := by decide +kernel
theorem dX4_landedBits_25 : decode cX4_landedBits 25 = .ok (.iload 4, 2) := by decide +kernel
theorem dX4_landedBits_27 : decode cX4_landedBits 27 = .ok (.iaload, 1) := by decide +kernel
theorem dX4_landedBits_28 : decode cX4_landedBits 28 = .ok (.iload_n 2, 1) := by decide +kernel
theorem dX4_landedBits_29 : decode cX4_landedBits 29 = .ok (.if_icmp .ne 10, 3) := by decide +kernel
theorem dX4_landedBits_3 : decode cX4_landedBits 3 = .ok (.istore 4, 2) := by decide +kernel
theorem dX4_landedBits_32 : decode cX4_landedBits 32 = .ok (.iload_n 3, 1) := by decide +kernel
theorem dX4_landedBits_33 : decode cX4_landedBits 33 = .ok (.iconst 1, 1) := by decide +kernel
theorem dX4_landedBits_34 : decode cX4_landedBits 34 = .ok (.iload 4, 2) := by decide +kernel
theorem dX4_landedBits_36 : decode cX4_landedBits 36 = .ok (.ishl, 1) := by decide +kernel
theorem dX4_landedBits_37 : decode cX4_landedBits 37 = .ok (.ior, 1) := by decide +kernel
theorem dX4_landedBits_38 : decode cX4_landedBits 38 = .ok (.istore_n 3, 1) := by decide +kernel
theorem dX4_landedBits_39 : decode cX4_landedBits 39 = .ok (.iinc 4 1, 3) := by decide +kernel
theorem dX4_landedBits_42 : decode cX4_landedBits 42 = .ok (.goto (-37), 3) := by decide +kernel
theorem dX4_landedBits_45 : decode cX4_landedBits 45 = .ok (.iload_n 3, 1) := by decide +kernel
theorem dX4_landedBits_46 : decode cX4_landedBits 46 = .ok (.ireturn, 1) := by decide +kernel
theorem dX4_landedBits_5 : decode cX4_landedBits 5 = .ok (.iload 4, 2) := by decide +kernel
theorem dX4_landedBits_7 : decode cX4_landedBits 7 = .ok (.iload_n 1, 1) := by decide +kernel
theorem dX4_landedBits_8 : decode cX4_landedBits 8 = .ok (.if_icmp .ge 37, 3) := by decide +kernel
def vX4_landedBits : List Cond := .code yX4_landedBits cX4_landedBits 5 (some .int) :: ([.fieldLink RX4 21 "HookPier$Now" "stage" "[I", .fieldLink RX4 28 "HookPier$Now" "landedBy" "[I"] ++ wsX40)
theorem iX4_landedBits_X4 : ∀ w ∈ wsX40, w ∈ vX4_landedBits := fun _ h => List.mem_cons_of_mem _ (List.mem_append_right _ h)
set_option maxHeartbeats 2000000 in
set_option maxRecDepth 100000 in
theorem kX4_landedBits (l : Launch) (dC : Nat → ClassId) (dI : Nat → Nat → Nat) (a0 : Nat) (k1 : Int32) (k2 : Int32) (a3 : Nat) (a4 : Nat) (g5 : Value) (g6 : Value) (g7 : Value) (g8 : Value) (g9 : Value) (cB10 : ClassId) (f11 : Nat → Int32) (cB12 : ClassId) (f13 : Nat → Int32) (hk1 : (0 ≤ k1.toInt ∧ k1.toInt ≤ 6)) (sz : Nat) : Met l yX4_landedBits vX4_landedBits ({ frames := 0, cells := 0, slots := 0, locals := 0 }) (PC (dC, dI) [.ref a0, .int k1, .int k2] sz [(a0, .inr (3, [g5, g6, g7, .ref a3, g8, .ref a4, g9])), (a3, .inl (cB10, 6, .inl f11)), (a4, .inl (cB12, 6, .inl f13))] [(cB10, .int), (cB12, .int)]) (va_Qi (S := Unit) (fun (r : Int32) _ => (0 ≤ r.toInt ∧ r.toInt ≤ 63)) (fun _ t => BC (dC, dI) (va_A [(a0, .inr (3, [g5, g6, g7, .ref a3, g8, .ref a4, g9])), (a3, .inl (cB10, 6, .inl f11)), (a4, .inl (cB12, 6, .inl f13))] sz) [(a0, .inr (3, [g5, g6, g7, .ref a3, g8, .ref a4, g9])), (a3, .inl (cB10, 6, .inl f11)), (a4, .inl (cB12, 6, .inl f13))] [] t) (va_A [(a0, .inr (3, [g5, g6, g7, .ref a3, g8, .ref a4, g9])), (a3, .inl (cB10, 6, .inl f11)), (a4, .inl (cB12, 6, .inl f13))] sz)) 0 0 (va_A [(a0, .inr (3, [g5, g6, g7, .ref a3, g8, .ref a4, g9])), (a3, .inl (cB10, 6, .inl f11)), (a4, .inl (cB12, 6, .inl f13))] sz) := by
  refine Met.ofW (cc := cX4_landedBits) (maxL := 5) (ret := (some .int)) (by decide) rfl ?_
  intro p e s m args below meth c s₁ B hml hv
  obtain ⟨rfl, hsz, hP, hK, hD0, hN⟩ := hv
  have hx := B.exec
  have hb := B.bytes
  have hr := B.returns
  have hts := atoms_spec (ws := vX4_landedBits) B.pre
  have hown : s.vm.findClass RX4 = some m.cls := findClass_of_methodNamed B.named
  have hlocks := B.notSynchronized
  subst hsz
  have hD := hD0.self (sz := s.heap.size)
  generalize hAe : va_A [(a0, .inr (3, [g5, g6, g7, .ref a3, g8, .ref a4, g9])), (a3, .inl (cB10, 6, .inl f11)), (a4, .inl (cB12, 6, .inl f13))] s.heap.size = A at hD ⊢
  have hA : ∀ q : Nat, s.heap.size ≤ q → A q := fun q h => by rw [← hAe]; exact Or.inr h
  have hS : va_S A s.heap s.heap [] := va_S.rf
  have hP : va_P (dC, dI) vwCl [(a0, .inr (3, [g5, g6, g7, .ref a3, g8, .ref a4, g9])), (a3, .inl (cB10, 6, .inl f11)), (a4, .inl (cB12, 6, .inl f13))] s.heap := hP
  have hl := lv_entry ([.ref a0, .int k1, .int k2]) (n := 5) (Nat.le_of_ble_eq_true rfl)
  rw [lg_entry_eq]
  generalize (lg_sl ([.ref a0, .int k1, .int k2]) ++ List.replicate (5 - (lg_sl ([.ref a0, .int k1, .int k2])).length) Slot.unset).toArray = ls at hl ⊢
  have hl : lv_has ls 5 [(0, .ref a0), (1, .int k1), (2, .int k2)] := hl
  refine lv_iconst (v := 0) hx hb dX4_landedBits_0 (by decide) ?_
  refine lv_istore_n (lv' := [(3, .int 0), (0, .ref a0), (1, .int k1), (2, .int k2)]) hx hb dX4_landedBits_1 rfl hl (by decide) rfl (fun ls hl => ?_)
  refine lv_iconst (v := 0) hx hb dX4_landedBits_2 (by decide) ?_
  refine lv_istore (lv' := [(4, .int 0), (3, .int 0), (0, .ref a0), (1, .int k1), (2, .int k2)]) hx hb dX4_landedBits_3 hl (by decide) rfl (fun ls hl => ?_)
  have L5_70 : ∀ (n : Nat) (z68 : Int32) (z69 : Int32) (H : Heap) (locs : List Loc) (ls : Array Slot), (0 ≤ z68.toInt ∧ z68.toInt ≤ 6) → (0 ≤ z69.toInt ∧ z69.toInt ≤ 63) → 6 - z68.toInt < (n : Int) → va_P (dC, dI) vwCl [(a0, .inr (3, [g5, g6, g7, .ref a3, g8, .ref a4, g9])), (a3, .inl (cB10, 6, .inl f11)), (a4, .inl (cB12, 6, .inl f13))] H → va_D A [(a0, .inr (3, [g5, g6, g7, .ref a3, g8, .ref a4, g9])), (a3, .inl (cB10, 6, .inl f11)), (a4, .inl (cB12, 6, .inl f13))] → va_S A s.heap H locs → lv_has ls 5 [(4, .int z68), (3, .int z69), (0, .ref a0), (1, .int k1), (2, .int k2)] → W p l e (headSpec vX4_landedBits { frames := 0, cells := 0, slots := 0, locals := 0 }).room s m ([.ref a0, .int k1, .int k2]).toArray below meth c H locs 0 0 (MQ below (va_Qi (S := Unit) (fun (r : Int32) _ => (0 ≤ r.toInt ∧ r.toInt ≤ 63)) (fun _ t => BC (dC, dI) A [(a0, .inr (3, [g5, g6, g7, .ref a3, g8, .ref a4, g9])), (a3, .inl (cB10, 6, .inl f11)), (a4, .inl (cB12, 6, .inl f13))] [] t) A) ([.ref a0, .int k1, .int k2]).toArray s 0 0 A) (F0 m 5 ls []) := by
    intro n
    induction n with
    | zero =>
      intro z68 z69 H locs ls b5_0 b5_1 hm _ _ _ _
      exact absurd hm (by omega)
    | succ n ih5 =>
      intro z68 z69 H locs ls b5_0 b5_1 hm5 hP hD hS hl
      refine lv_iload hx hb dX4_landedBits_5 (lv_at hl 0 rfl) ?_
      refine lv_iload_n hx hb dX4_landedBits_7 rfl (lv_at hl 3 rfl) ?_
      refine lv_icmp_ge (tgt := 45) hx hb dX4_landedBits_8 (by decide) (fun c71 => ?_) (fun c71 => ?_)
      · simp only [fa_lt, fa_le, fa_eq, ltv_0] at c71
        refine lv_iload_n hx hb dX4_landedBits_45 rfl (lv_at hl 1 rfl) ?_
        have hP9 := hP.sub (ws' := [(a0, .inr (3, [g5, g6, g7, .ref a3, g8, .ref a4, g9])), (a3, .inl (cB10, 6, .inl f11)), (a4, .inl (cB12, 6, .inl f13))]) [0, 1, 2] rfl
        have hD9 := hD.sub (ws' := [(a0, .inr (3, [g5, g6, g7, .ref a3, g8, .ref a4, g9])), (a3, .inl (cB10, 6, .inl f11)), (a4, .inl (cB12, 6, .inl f13))]) [0, 1, 2] (by decide) rfl
        have hK9 := hK.sub (tys' := []) [] rfl
        exact W.iret (v := z69) hx hb hr (fun t ht hW => ⟨⟨z69, (), rfl, (by first | trivial | omega | (simp only [ltv_0]; omega)), by rw [ht]; exact hP9, va_K.moved hW.alike hK9, hD9⟩, hS.F ht⟩) hS.2.2 dX4_landedBits_46
      · simp only [fa_lt, fa_le, fa_eq, ltv_0] at c71
        refine lv_aload_n hx hb dX4_landedBits_11 rfl (lv_at hl 2 rfl) ?_
        refine va_get (D := (dC, dI)) (ci := 3) (v := .ref a3) (C := RX4) (T := TX4) (N := 7) hx hb hts iX4_landedBits_X4 hown hK hP 0 rfl rfl 3 (by decide) (hts (.fieldLink RX4 21 "HookPier$Now" "stage" "[I") (List.mem_of_getElem? (i := 1) rfl)) (fun _ h9 => h9) rfl dX4_landedBits_12 ?_
        refine lv_iload hx hb dX4_landedBits_15 (lv_at hl 0 rfl) ?_
        refine va_iald hx hb hK hP 1 0 rfl rfl (vp_in_iff.mpr (by omega)) dX4_landedBits_17 ?_
        refine lv_topi (fun z72 ez72 => ?_)
        clear ez72
        refine lv_if_eq (tgt := 39) hx hb dX4_landedBits_18 (by decide) (fun c73 => ?_) (fun c73 => ?_)
        · simp only [fa_lt, fa_le, fa_eq, ltv_0] at c73
          obtain ⟨z74, ez74⟩ : ∃ y : Int32, y = z68 + 1 := ⟨_, rfl⟩
          have tz74 : z74.toInt = z68.toInt + 1 := by rw [ez74, iadd_t (by simp only [ltv_1]; omega) (by simp only [ltv_1]; omega)]; simp only [ltv_1]
          refine lv_iinc (v := z74) (lv' := [(4, .int z74), (3, .int z69), (0, .ref a0), (1, .int k1), (2, .int k2)]) hx hb dX4_landedBits_39 hl (k := 0) rfl (by rw [ez74]; rfl) (by decide) rfl (fun ls hl => ?_)
          refine lv_goto (tgt := 5) hx hb dX4_landedBits_42 (by decide) ?_
          exact ih5 z74 z69 H locs ls (by first | omega | (simp only [ltv_0]; omega)) (by first | omega | (simp only [ltv_0]; omega)) (by first | omega | (simp only [ltv_0]; omega)) hP hD hS (lv_sub hl [0, 1, 2, 3, 4] rfl)
        · simp only [fa_lt, fa_le, fa_eq, ltv_0] at c73
          refine lv_aload_n hx hb dX4_landedBits_21 rfl (lv_at hl 2 rfl) ?_
          refine va_get (D := (dC, dI)) (ci := 3) (v := .ref a4) (C := RX4) (T := TX4) (N := 7) hx hb hts iX4_landedBits_X4 hown hK hP 0 rfl rfl 5 (by decide) (hts (.fieldLink RX4 28 "HookPier$Now" "landedBy" "[I") (List.mem_of_getElem? (i := 2) rfl)) (fun _ h9 => h9) rfl dX4_landedBits_22 ?_
          refine lv_iload hx hb dX4_landedBits_25 (lv_at hl 0 rfl) ?_
          refine va_iald hx hb hK hP 2 1 rfl rfl (vp_in_iff.mpr (by omega)) dX4_landedBits_27 ?_
          refine lv_topi (fun z75 ez75 => ?_)
          clear ez75
          refine lv_iload_n hx hb dX4_landedBits_28 rfl (lv_at hl 4 rfl) ?_
          refine lv_icmp_ne (tgt := 39) hx hb dX4_landedBits_29 (by decide) (fun c76 => ?_) (fun c76 => ?_)
          · simp only [fa_lt, fa_le, fa_eq, ltv_0] at c76
            obtain ⟨z77, ez77⟩ : ∃ y : Int32, y = z68 + 1 := ⟨_, rfl⟩
            have tz77 : z77.toInt = z68.toInt + 1 := by rw [ez77, iadd_t (by simp only [ltv_1]; omega) (by simp only [ltv_1]; omega)]; simp only [ltv_1]
            refine lv_iinc (v := z77) (lv' := [(4, .int z77), (3, .int z69), (0, .ref a0), (1, .int k1), (2, .int k2)]) hx hb dX4_landedBits_39 hl (k := 0) rfl (by rw [ez77]; rfl) (by decide) rfl (fun ls hl => ?_)
            refine lv_goto (tgt := 5) hx hb dX4_landedBits_42 (by decide) ?_
            exact ih5 z77 z69 H locs ls (by first | omega | (simp only [ltv_0]; omega)) (by first | omega | (simp only [ltv_0]; omega)) (by first | omega | (simp only [ltv_0]; omega)) hP hD hS (lv_sub hl [0, 1, 2, 3, 4] rfl)
          · simp only [fa_lt, fa_le, fa_eq, ltv_0] at c76
            refine lv_iload_n hx hb dX4_landedBits_32 rfl (lv_at hl 1 rfl) ?_
            refine lv_iconst (v := 1) hx hb dX4_landedBits_33 (by decide) ?_
            refine lv_iload hx hb dX4_landedBits_34 (lv_at hl 0 rfl) ?_
            refine lv_ishl hx hb dX4_landedBits_36 ?_
            refine lv_topi (fun z78 ez78 => ?_)
            have tz78 : 1 ≤ z78.toInt ∧ z78.toInt ≤ 32 := by rw [ez78]; have h9 := ishl1_t 0 5 1 32 rfl rfl (by decide) (k := z68) (by omega) (by omega); omega
            refine lv_ior hx hb dX4_landedBits_37 ?_
            refine lv_topi (fun z79 ez79 => ?_)
            have tz79 : 0 ≤ z79.toInt ∧ z79.toInt ≤ 63 := by rw [ez79]; have h9 := ior_t 6 63 rfl (by decide) (x := z69) (y := z78) (by first | omega | (simp only [ltv_0]; omega)) (by first | omega | (simp only [ltv_0]; omega)); omega
            refine lv_istore_n (lv' := [(3, .int z79), (4, .int z68), (0, .ref a0), (1, .int k1), (2, .int k2)]) hx hb dX4_landedBits_38 rfl hl (by decide) rfl (fun ls hl => ?_)
            obtain ⟨z80, ez80⟩ : ∃ y : Int32, y = z68 + 1 := ⟨_, rfl⟩
            have tz80 : z80.toInt = z68.toInt + 1 := by rw [ez80, iadd_t (by simp only [ltv_1]; omega) (by simp only [ltv_1]; omega)]; simp only [ltv_1]
            refine lv_iinc (v := z80) (lv' := [(4, .int z80), (3, .int z79), (0, .ref a0), (1, .int k1), (2, .int k2)]) hx hb dX4_landedBits_39 hl (k := 1) rfl (by rw [ez80]; rfl) (by decide) rfl (fun ls hl => ?_)
            refine lv_goto (tgt := 5) hx hb dX4_landedBits_42 (by decide) ?_
            exact ih5 z80 z79 H locs ls (by first | omega | (simp only [ltv_0]; omega)) (by first | omega | (simp only [ltv_0]; omega)) (by first | omega | (simp only [ltv_0]; omega)) hP hD hS (lv_sub hl [0, 1, 2, 3, 4] rfl)
  exact L5_70 7 (0) (0) s.heap _ ls (by first | omega | (simp only [ltv_0]; omega)) (by first | omega | (simp only [ltv_0]; omega)) (by first | omega | (simp only [ltv_0]; omega)) hP hD hS (lv_sub hl [0, 1, 2, 3, 4] rfl)
theorem dX4_isTangled_0 : decode cX4_isTangled 0 = .ok (.iconst 0, 1) := by decide +kernel
theorem dX4_isTangled_1 : decode cX4_isTangled 1 = .ok (.istore 4, 2) := by decide +kernel
theorem dX4_isTangled_12 : decode cX4_isTangled 12 = .ok (.iload 4, 2) := by decide +kernel
theorem dX4_isTangled_14 : decode cX4_isTangled 14 = .ok (.iload_n 2, 1) := by decide +kernel
theorem dX4_isTangled_15 : decode cX4_isTangled 15 = .ok (.if_icmp .eq 37, 3) := by decide +kernel
theorem dX4_isTangled_18 : decode cX4_isTangled 18 = .ok (.aload_n 0, 1) := by decide +kernel
theorem dX4_isTangled_19 : decode cX4_isTangled 19 = .ok (.getfield 31, 3) := by decide +kernel
theorem dX4_isTangled_22 : decode cX4_isTangled 22 = .ok (.iload 4, 2) := by decide +kernel
theorem dX4_isTangled_24 : decode cX4_isTangled 24 = .ok (.iaload, 1) := by decide +kernel
theorem dX4_isTangled_25 : decode cX4_isTangled 25 = .ok (.iconst (-1), 1) := by decide +kernel
theorem dX4_isTangled_26 : decode cX4_isTangled 26 = .ok (.if_icmp .eq 26, 3) := by decide +kernel
theorem dX4_isTangled_29 : decode cX4_isTangled 29 = .ok (.aload_n 1, 1) := by decide +kernel
theorem dX4_isTangled_3 : decode cX4_isTangled 3 = .ok (.iload 4, 2) := by decide +kernel
theorem dX4_isTangled_30 : decode cX4_isTangled 30 = .ok (.iload_n 2, 1) := by decide +kernel
theorem dX4_isTangled_31 : decode cX4_isTangled 31 = .ok (.iload_n 3, 1) := by decide +kernel
theorem dX4_isTangled_32 : decode cX4_isTangled 32 = .ok (.iload 4, 2) := by decide +kernel
theorem dX4_isTangled_34 : decode cX4_isTangled 34 = .ok (.aload_n 0, 1) := by decide +kernel
theorem dX4_isTangled_35 : decode cX4_isTangled 35 = .ok (.getfield 31, 3) := by decide +kernel
theorem dX4_isTangled_38 : decode cX4_isTangled 38 = .ok (.iload 4, 2) := by decide +kernel
theorem dX4_isTangled_40 : decode cX4_isTangled 40 = .ok (.iaload, 1) := by decide +kernel
theorem dX4_isTangled_41 : decode cX4_isTangled 41 = .ok (.invokestatic 49, 3) := by decide +kernel
theorem dX4_isTangled_44 : decode cX4_isTangled 44 = .ok (.invokevirtual 53, 3) := by decide +kernel
theorem dX4_isTangled_47 : decode cX4_isTangled 47 = .ok (.ifCond .eq 5, 3) := by decide +kernel
theorem dX4_isTangled_5 : decode cX4_isTangled 5 = .ok (.aload_n 1, 1) := by decide +kernel
theorem dX4_isTangled_50 : decode cX4_isTangled 50 = .ok (.iconst 1, 1) := by decide +kernel
theorem dX4_isTangled_51 : decode cX4_isTangled 51 = .ok (.ireturn, 1) := by decide +kernel
theorem dX4_isTangled_52 : decode cX4_isTangled 52 = .ok (.iinc 4 1, 3) := by decide +kernel
theorem dX4_isTangled_55 : decode cX4_isTangled 55 = .ok (.goto (-52), 3) := by decide +kernel
theorem dX4_isTangled_58 : decode cX4_isTangled 58 = .ok (.iconst 0, 1) := by decide +kernel
theorem dX4_isTangled_59 : decode cX4_isTangled 59 = .ok (.ireturn, 1) := by decide +kernel
theorem dX4_isTangled_6 : decode cX4_isTangled 6 = .ok (.getfield 44, 3) := by decide +kernel
theorem dX4_isTangled_9 : decode cX4_isTangled 9 = .ok (.if_icmp .ge 49, 3) := by decide +kernel
def vX4_isTangled : List Cond := .code yX4_isTangled cX4_isTangled 5 (some .boolean) :: ([.fieldLink RX4 44 "HookPier$Plan" "askers" "I", .fieldLink RX4 31 "HookPier$Now" "line" "[I", .code yX10_spotOf cX10_spotOf 1 (some .int), .initialized RX10, .static yX10_spotOf, .methodLink RX4 53 yX6_isTangle, .instanceMethod yX6_isTangle, .selects RX6 yX6_isTangle yX6_isTangle, .initialized RX6, .code yX6_isTangle cX6_isTangle 5 (some .boolean), .methodLink RX6 89 Lib.Math.abs.name, .static Lib.Math.abs.name, .initialized "java/lang/Math", .code Lib.Math.abs.name Lib.Math.abs.code 1 (some .int), .fieldLink RX6 39 "HookPier$Plan" "reach" "[I"] ++ wsX60 ++ wsX40)
theorem iX4_isTangled_X6 : ∀ w ∈ wsX60, w ∈ vX4_isTangled := fun _ h => List.mem_cons_of_mem _ (List.mem_append_left _ (List.mem_append_right _ h))
theorem iX4_isTangled_X4 : ∀ w ∈ wsX40, w ∈ vX4_isTangled := fun _ h => List.mem_cons_of_mem _ (List.mem_append_right _ h)
set_option maxRecDepth 20000 in
theorem gX4_isTangled_0 : GoodIn vX4_isTangled vX10_spotOf := (goodIn_r (.code yX10_spotOf cX10_spotOf 1 (some .int) :: []) [3] (by decide +kernel) (by decide +kernel) : GoodIn vX4_isTangled (.code yX10_spotOf cX10_spotOf 1 (some .int) :: []))
set_option maxRecDepth 20000 in
theorem gX4_isTangled_1 : GoodIn vX4_isTangled (wsV RX4 53 RX6 yX6_isTangle vX6_isTangle) := goodIn_app (goodIn_r [.methodLink RX4 53 yX6_isTangle, .instanceMethod yX6_isTangle, .selects RX6 yX6_isTangle yX6_isTangle, .initialized RX6] [6, 7, 8, 9] (by decide +kernel) (by decide +kernel)) (goodIn_ca (goodIn_r (.code yX6_isTangle cX6_isTangle 5 (some .boolean) :: [.methodLink RX6 89 Lib.Math.abs.name, .static Lib.Math.abs.name, .initialized "java/lang/Math", .code Lib.Math.abs.name Lib.Math.abs.code 1 (some .int), .fieldLink RX6 39 "HookPier$Plan" "reach" "[I"]) [10, 11, 12, 13, 14, 15] (by decide +kernel) (by decide +kernel) : GoodIn vX4_isTangled (.code yX6_isTangle cX6_isTangle 5 (some .boolean) :: [.methodLink RX6 89 Lib.Math.abs.name, .static Lib.Math.abs.name, .initialized "java/lang/Math", .code Lib.Math.abs.name Lib.Math.abs.code 1 (some .int), .fieldLink RX6 39 "HookPier$Plan" "reach" "[I"])) (goodIn_sub iX4_isTangled_X6 (by decide +kernel)))
set_option maxHeartbeats 2000000 in
set_option maxRecDepth 100000 in
theorem kX4_isTangled (l : Launch) (dC : Nat → ClassId) (dI : Nat → Nat → Nat) (a0 : Nat) (a1 : Nat) (k2 : Int32) (k3 : Int32) (a4 : Nat) (a5 : Nat) (g6 : Value) (g7 : Value) (g8 : Value) (g9 : Value) (g10 : Value) (g11 : Value) (g12 : Value) (g13 : Value) (g14 : Value) (g15 : Value) (g16 : Value) (k17 : Int32) (g18 : Value) (g19 : Value) (g20 : Value) (g21 : Value) (g22 : Value) (g23 : Value) (g24 : Value) (g25 : Value) (g26 : Value) (g27 : Value) (g28 : Value) (cB29 : ClassId) (f30 : Nat → Int32) (cB31 : ClassId) (f32 : Nat → Int32) (hk2 : (0 ≤ k2.toInt ∧ k2.toInt ≤ 4)) (hk17 : (0 ≤ k17.toInt ∧ k17.toInt ≤ 5)) (sz : Nat) : Met l yX4_isTangled vX4_isTangled ({ frames := 2, cells := 0, slots := 0, locals := 45 }) (PC (dC, dI) [.ref a0, .ref a1, .int k2, .int k3] sz [(a0, .inr (3, [g6, g7, g8, g9, g10, g11, .ref a4])), (a1, .inr (4, [g12, g13, g14, g15, g16, .int k17, g18, g19, g20, .ref a5, g21, g22, g23, g24, g25, g26, g27, g28])), (a4, .inl (cB29, 5, .inl f30)), (a5, .inl (cB31, 5, .inl f32))] [(cB29, .int), (cB31, .int)]) (va_Qi (S := Unit) (fun (r : Int32) _ => (0 ≤ r.toInt ∧ r.toInt ≤ 1)) (fun _ t => BC (dC, dI) (va_A [(a0, .inr (3, [g6, g7, g8, g9, g10, g11, .ref a4])), (a1, .inr (4, [g12, g13, g14, g15, g16, .int k17, g18, g19, g20, .ref a5, g21, g22, g23, g24, g25, g26, g27, g28])), (a4, .inl (cB29, 5, .inl f30)), (a5, .inl (cB31, 5, .inl f32))] sz) [(a0, .inr (3, [g6, g7, g8, g9, g10, g11, .ref a4])), (a1, .inr (4, [g12, g13, g14, g15, g16, .int k17, g18, g19, g20, .ref a5, g21, g22, g23, g24, g25, g26, g27, g28])), (a4, .inl (cB29, 5, .inl f30)), (a5, .inl (cB31, 5, .inl f32))] [] t) (va_A [(a0, .inr (3, [g6, g7, g8, g9, g10, g11, .ref a4])), (a1, .inr (4, [g12, g13, g14, g15, g16, .int k17, g18, g19, g20, .ref a5, g21, g22, g23, g24, g25, g26, g27, g28])), (a4, .inl (cB29, 5, .inl f30)), (a5, .inl (cB31, 5, .inl f32))] sz)) 0 0 (va_A [(a0, .inr (3, [g6, g7, g8, g9, g10, g11, .ref a4])), (a1, .inr (4, [g12, g13, g14, g15, g16, .int k17, g18, g19, g20, .ref a5, g21, g22, g23, g24, g25, g26, g27, g28])), (a4, .inl (cB29, 5, .inl f30)), (a5, .inl (cB31, 5, .inl f32))] sz) := by
  refine Met.ofW (cc := cX4_isTangled) (maxL := 5) (ret := (some .boolean)) (by decide) rfl ?_
  intro p e s m args below meth c s₁ B hml hv
  obtain ⟨rfl, hsz, hP, hK, hD0, hN⟩ := hv
  have hx := B.exec
  have hb := B.bytes
  have hr := B.returns
  have hts := atoms_spec (ws := vX4_isTangled) B.pre
  have hown : s.vm.findClass RX4 = some m.cls := findClass_of_methodNamed B.named
  have hlocks := B.notSynchronized
  subst hsz
  have hD := hD0.self (sz := s.heap.size)
  generalize hAe : va_A [(a0, .inr (3, [g6, g7, g8, g9, g10, g11, .ref a4])), (a1, .inr (4, [g12, g13, g14, g15, g16, .int k17, g18, g19, g20, .ref a5, g21, g22, g23, g24, g25, g26, g27, g28])), (a4, .inl (cB29, 5, .inl f30)), (a5, .inl (cB31, 5, .inl f32))] s.heap.size = A at hD ⊢
  have hA : ∀ q : Nat, s.heap.size ≤ q → A q := fun q h => by rw [← hAe]; exact Or.inr h
  have hS : va_S A s.heap s.heap [] := va_S.rf
  have hP : va_P (dC, dI) vwCl [(a0, .inr (3, [g6, g7, g8, g9, g10, g11, .ref a4])), (a1, .inr (4, [g12, g13, g14, g15, g16, .int k17, g18, g19, g20, .ref a5, g21, g22, g23, g24, g25, g26, g27, g28])), (a4, .inl (cB29, 5, .inl f30)), (a5, .inl (cB31, 5, .inl f32))] s.heap := hP
  have hl := lv_entry ([.ref a0, .ref a1, .int k2, .int k3]) (n := 5) (Nat.le_of_ble_eq_true rfl)
  rw [lg_entry_eq]
  generalize (lg_sl ([.ref a0, .ref a1, .int k2, .int k3]) ++ List.replicate (5 - (lg_sl ([.ref a0, .ref a1, .int k2, .int k3])).length) Slot.unset).toArray = ls at hl ⊢
  have hl : lv_has ls 5 [(0, .ref a0), (1, .ref a1), (2, .int k2), (3, .int k3)] := hl
  refine lv_iconst (v := 0) hx hb dX4_isTangled_0 (by decide) ?_
  refine lv_istore (lv' := [(4, .int 0), (0, .ref a0), (1, .ref a1), (2, .int k2), (3, .int k3)]) hx hb dX4_isTangled_1 hl (by decide) rfl (fun ls hl => ?_)
  have L3_65 : ∀ (n : Nat) (z64 : Int32) (H : Heap) (locs : List Loc) (ls : Array Slot), (0 ≤ z64.toInt ∧ z64.toInt ≤ 5) → 5 - z64.toInt < (n : Int) → va_P (dC, dI) vwCl [(a0, .inr (3, [g6, g7, g8, g9, g10, g11, .ref a4])), (a1, .inr (4, [g12, g13, g14, g15, g16, .int k17, g18, g19, g20, .ref a5, g21, g22, g23, g24, g25, g26, g27, g28])), (a4, .inl (cB29, 5, .inl f30)), (a5, .inl (cB31, 5, .inl f32))] H → va_D A [(a0, .inr (3, [g6, g7, g8, g9, g10, g11, .ref a4])), (a1, .inr (4, [g12, g13, g14, g15, g16, .int k17, g18, g19, g20, .ref a5, g21, g22, g23, g24, g25, g26, g27, g28])), (a4, .inl (cB29, 5, .inl f30)), (a5, .inl (cB31, 5, .inl f32))] → va_S A s.heap H locs → lv_has ls 5 [(4, .int z64), (0, .ref a0), (1, .ref a1), (2, .int k2), (3, .int k3)] → W p l e (headSpec vX4_isTangled { frames := 2, cells := 0, slots := 0, locals := 45 }).room s m ([.ref a0, .ref a1, .int k2, .int k3]).toArray below meth c H locs 0 0 (MQ below (va_Qi (S := Unit) (fun (r : Int32) _ => (0 ≤ r.toInt ∧ r.toInt ≤ 1)) (fun _ t => BC (dC, dI) A [(a0, .inr (3, [g6, g7, g8, g9, g10, g11, .ref a4])), (a1, .inr (4, [g12, g13, g14, g15, g16, .int k17, g18, g19, g20, .ref a5, g21, g22, g23, g24, g25, g26, g27, g28])), (a4, .inl (cB29, 5, .inl f30)), (a5, .inl (cB31, 5, .inl f32))] [] t) A) ([.ref a0, .ref a1, .int k2, .int k3]).toArray s 0 0 A) (F0 m 3 ls []) := by
    intro n
    induction n with
    | zero =>
      intro z64 H locs ls b3_0 hm _ _ _ _
      exact absurd hm (by omega)
    | succ n ih3 =>
      intro z64 H locs ls b3_0 hm3 hP hD hS hl
      refine lv_iload hx hb dX4_isTangled_3 (lv_at hl 0 rfl) ?_
      refine lv_aload_n hx hb dX4_isTangled_5 rfl (lv_at hl 2 rfl) ?_
      refine va_get (D := (dC, dI)) (ci := 4) (v := .int k17) (C := RX6) (T := TX6) (N := 18) hx hb hts iX4_isTangled_X6 hown hK hP 1 rfl rfl 5 (by decide) (hts (.fieldLink RX4 44 "HookPier$Plan" "askers" "I") (List.mem_of_getElem? (i := 1) rfl)) (fun _ h9 => h9) rfl dX4_isTangled_6 ?_
      refine lv_icmp_ge (tgt := 58) hx hb dX4_isTangled_9 (by decide) (fun c66 => ?_) (fun c66 => ?_)
      · simp only [fa_lt, fa_le, fa_eq, ltv_0] at c66
        refine lv_iconst (v := 0) hx hb dX4_isTangled_58 (by decide) ?_
        have hP9 := hP.sub (ws' := [(a0, .inr (3, [g6, g7, g8, g9, g10, g11, .ref a4])), (a1, .inr (4, [g12, g13, g14, g15, g16, .int k17, g18, g19, g20, .ref a5, g21, g22, g23, g24, g25, g26, g27, g28])), (a4, .inl (cB29, 5, .inl f30)), (a5, .inl (cB31, 5, .inl f32))]) [0, 1, 2, 3] rfl
        have hD9 := hD.sub (ws' := [(a0, .inr (3, [g6, g7, g8, g9, g10, g11, .ref a4])), (a1, .inr (4, [g12, g13, g14, g15, g16, .int k17, g18, g19, g20, .ref a5, g21, g22, g23, g24, g25, g26, g27, g28])), (a4, .inl (cB29, 5, .inl f30)), (a5, .inl (cB31, 5, .inl f32))]) [0, 1, 2, 3] (by decide) rfl
        have hK9 := hK.sub (tys' := []) [] rfl
        exact W.zret (v := 0) hx hb hr rfl (fun t ht hW => ⟨⟨0, (), rfl, (by first | trivial | omega | (simp only [ltv_0]; omega)), by rw [ht]; exact hP9, va_K.moved hW.alike hK9, hD9⟩, hS.F ht⟩) hS.2.2 dX4_isTangled_59
      · simp only [fa_lt, fa_le, fa_eq, ltv_0] at c66
        refine lv_iload hx hb dX4_isTangled_12 (lv_at hl 0 rfl) ?_
        refine lv_iload_n hx hb dX4_isTangled_14 rfl (lv_at hl 3 rfl) ?_
        refine lv_icmp_eq (tgt := 52) hx hb dX4_isTangled_15 (by decide) (fun c67 => ?_) (fun c67 => ?_)
        · simp only [fa_lt, fa_le, fa_eq, ltv_0] at c67
          obtain ⟨z68, ez68⟩ : ∃ y : Int32, y = z64 + 1 := ⟨_, rfl⟩
          have tz68 : z68.toInt = z64.toInt + 1 := by rw [ez68, iadd_t (by simp only [ltv_1]; omega) (by simp only [ltv_1]; omega)]; simp only [ltv_1]
          refine lv_iinc (v := z68) (lv' := [(4, .int z68), (0, .ref a0), (1, .ref a1), (2, .int k2), (3, .int k3)]) hx hb dX4_isTangled_52 hl (k := 0) rfl (by rw [ez68]; rfl) (by decide) rfl (fun ls hl => ?_)
          refine lv_goto (tgt := 3) hx hb dX4_isTangled_55 (by decide) ?_
          exact ih3 z68 H locs ls (by first | omega | (simp only [ltv_0]; omega)) (by first | omega | (simp only [ltv_0]; omega)) hP hD hS (lv_sub hl [0, 1, 2, 3, 4] rfl)
        · simp only [fa_lt, fa_le, fa_eq, ltv_0] at c67
          refine lv_aload_n hx hb dX4_isTangled_18 rfl (lv_at hl 1 rfl) ?_
          refine va_get (D := (dC, dI)) (ci := 3) (v := .ref a4) (C := RX4) (T := TX4) (N := 7) hx hb hts iX4_isTangled_X4 hown hK hP 0 rfl rfl 6 (by decide) (hts (.fieldLink RX4 31 "HookPier$Now" "line" "[I") (List.mem_of_getElem? (i := 2) rfl)) (fun _ h9 => h9) rfl dX4_isTangled_19 ?_
          refine lv_iload hx hb dX4_isTangled_22 (lv_at hl 0 rfl) ?_
          refine va_iald hx hb hK hP 2 0 rfl rfl (vp_in_iff.mpr (by omega)) dX4_isTangled_24 ?_
          refine lv_topi (fun z69 ez69 => ?_)
          clear ez69
          refine lv_iconst (v := (-1)) hx hb dX4_isTangled_25 (by decide) ?_
          refine lv_icmp_eq (tgt := 52) hx hb dX4_isTangled_26 (by decide) (fun c70 => ?_) (fun c70 => ?_)
          · simp only [fa_lt, fa_le, fa_eq, ltv_m1, ltv_0] at c70
            obtain ⟨z71, ez71⟩ : ∃ y : Int32, y = z64 + 1 := ⟨_, rfl⟩
            have tz71 : z71.toInt = z64.toInt + 1 := by rw [ez71, iadd_t (by simp only [ltv_1]; omega) (by simp only [ltv_1]; omega)]; simp only [ltv_1]
            refine lv_iinc (v := z71) (lv' := [(4, .int z71), (0, .ref a0), (1, .ref a1), (2, .int k2), (3, .int k3)]) hx hb dX4_isTangled_52 hl (k := 0) rfl (by rw [ez71]; rfl) (by decide) rfl (fun ls hl => ?_)
            refine lv_goto (tgt := 3) hx hb dX4_isTangled_55 (by decide) ?_
            exact ih3 z71 H locs ls (by first | omega | (simp only [ltv_0]; omega)) (by first | omega | (simp only [ltv_0]; omega)) hP hD hS (lv_sub hl [0, 1, 2, 3, 4] rfl)
          · simp only [fa_lt, fa_le, fa_eq, ltv_m1, ltv_0] at c70
            refine lv_aload_n hx hb dX4_isTangled_29 rfl (lv_at hl 2 rfl) ?_
            refine lv_iload_n hx hb dX4_isTangled_30 rfl (lv_at hl 3 rfl) ?_
            refine lv_iload_n hx hb dX4_isTangled_31 rfl (lv_at hl 4 rfl) ?_
            refine lv_iload hx hb dX4_isTangled_32 (lv_at hl 0 rfl) ?_
            refine lv_aload_n hx hb dX4_isTangled_34 rfl (lv_at hl 1 rfl) ?_
            refine va_get (D := (dC, dI)) (ci := 3) (v := .ref a4) (C := RX4) (T := TX4) (N := 7) hx hb hts iX4_isTangled_X4 hown hK hP 0 rfl rfl 6 (by decide) (hts (.fieldLink RX4 31 "HookPier$Now" "line" "[I") (List.mem_of_getElem? (i := 2) rfl)) (fun _ h9 => h9) rfl dX4_isTangled_35 ?_
            refine lv_iload hx hb dX4_isTangled_38 (lv_at hl 0 rfl) ?_
            refine va_iald hx hb hK hP 2 0 rfl rfl (vp_in_iff.mpr (by omega)) dX4_isTangled_40 ?_
            refine lv_topi (fun z72 ez72 => ?_)
            clear ez72
            refine cl_i (wc := []) (wr := [(a0, .inr (3, [g6, g7, g8, g9, g10, g11, .ref a4])), (a1, .inr (4, [g12, g13, g14, g15, g16, .int k17, g18, g19, g20, .ref a5, g21, g22, g23, g24, g25, g26, g27, g28])), (a4, .inl (cB29, 5, .inl f30)), (a5, .inl (cB31, 5, .inl f32))]) (va_runSN (As := [.int z72]) (rest := [.int z64, .int k3, .int k2, .ref a1]) ⟨hx, hb, hml, hown, hts⟩ (kX10_spotOf l dC dI z72  H.size) ⟨va_cnB 1 hts gX4_isTangled_0 rfl rfl rfl (hN.1 (.methodLinkNest RX4 49 yX10_spotOf "HookPier") (List.mem_of_getElem? (i := 11) rfl)) (hts (.initialized RX10) (List.mem_of_getElem? (i := 4) rfl)) (by decide +kernel) ⟨Nat.le_of_ble_eq_true rfl, Nat.le_of_ble_eq_true rfl⟩, (hts (.static yX10_spotOf) (List.mem_of_getElem? (i := 5) rfl)), trivial⟩ (PS (hP.sub (ws' := []) [] rfl) (hK.sub (tys' := []) [] rfl) (hD.sub (ws' := []) [] (by decide) rfl) hN) rfl rfl hl.1 rfl (lv_room (Nat.le_of_ble_eq_true rfl)) dX4_isTangled_41 ⟨Nat.le_of_ble_eq_true rfl, Nat.le_of_ble_eq_true rfl⟩) hP hD hK hS hA [] [0, 1, 2, 3] rfl rfl (by decide) (by decide) (fun z73 _u H locs hw hP hD hK hS => ?_)
            have b74 := hw
            have hP : va_P (dC, dI) vwCl [(a0, .inr (3, [g6, g7, g8, g9, g10, g11, .ref a4])), (a1, .inr (4, [g12, g13, g14, g15, g16, .int k17, g18, g19, g20, .ref a5, g21, g22, g23, g24, g25, g26, g27, g28])), (a4, .inl (cB29, 5, .inl f30)), (a5, .inl (cB31, 5, .inl f32))] H := hP
            have hD : va_D A [(a0, .inr (3, [g6, g7, g8, g9, g10, g11, .ref a4])), (a1, .inr (4, [g12, g13, g14, g15, g16, .int k17, g18, g19, g20, .ref a5, g21, g22, g23, g24, g25, g26, g27, g28])), (a4, .inl (cB29, 5, .inl f30)), (a5, .inl (cB31, 5, .inl f32))] := hD
            have hK : va_K (dC, dI) vwCl [(cB29, .int), (cB31, .int)] s := hK
            refine cl_i (wc := [(a1, .inr (4, [g12, g13, g14, g15, g16, .int k17, g18, g19, g20, .ref a5, g21, g22, g23, g24, g25, g26, g27, g28])), (a5, .inl (cB31, 5, .inl f32))]) (wr := [(a0, .inr (3, [g6, g7, g8, g9, g10, g11, .ref a4])), (a4, .inl (cB29, 5, .inl f30))]) (va_runV (As := [.int k2, .int k3, .int z64, .int z73]) (rest := []) ⟨hx, hb, hml, hown, hts⟩ (kX6_isTangle l dC dI a1 k2 k3 z64 z73 a5 (g12) (g13) (g14) (g15) (g16) (.int k17) (g18) (g19) (g20) (g21) (g22) (g23) (g24) (g25) (g26) (g27) (g28) cB31 f32 (by first | omega | (simp only [ltv_0]; omega)) (by first | omega | (simp only [ltv_0]; omega)) H.size) (cwV 4 hts gX4_isTangled_1 rfl rfl rfl (by decide +kernel) ⟨Nat.le_of_ble_eq_true rfl, Nat.le_of_ble_eq_true rfl⟩) (PV (hP.sub (ws' := [(a1, .inr (4, [g12, g13, g14, g15, g16, .int k17, g18, g19, g20, .ref a5, g21, g22, g23, g24, g25, g26, g27, g28])), (a5, .inl (cB31, 5, .inl f32))]) [1, 3] rfl) (hK.sub (tys' := [(cB31, .int)]) [1] rfl) (hD.sub (ws' := [(a1, .inr (4, [g12, g13, g14, g15, g16, .int k17, g18, g19, g20, .ref a5, g21, g22, g23, g24, g25, g26, g27, g28])), (a5, .inl (cB31, 5, .inl f32))]) [1, 3] (by decide) rfl) hN 0 rfl rfl) rfl rfl hl.1 rfl (lv_room (Nat.le_of_ble_eq_true rfl)) dX4_isTangled_44 ⟨Nat.le_of_ble_eq_true rfl, Nat.le_of_ble_eq_true rfl⟩) hP hD hK hS hA [1, 3] [0, 2] rfl rfl (by decide) (by decide) (fun z75 _u H locs hw hP hD hK hS => ?_)
            have b76 := hw
            have hP : va_P (dC, dI) vwCl [(a0, .inr (3, [g6, g7, g8, g9, g10, g11, .ref a4])), (a4, .inl (cB29, 5, .inl f30)), (a1, .inr (4, [g12, g13, g14, g15, g16, .int k17, g18, g19, g20, .ref a5, g21, g22, g23, g24, g25, g26, g27, g28])), (a5, .inl (cB31, 5, .inl f32))] H := hP
            have hD : va_D A [(a0, .inr (3, [g6, g7, g8, g9, g10, g11, .ref a4])), (a4, .inl (cB29, 5, .inl f30)), (a1, .inr (4, [g12, g13, g14, g15, g16, .int k17, g18, g19, g20, .ref a5, g21, g22, g23, g24, g25, g26, g27, g28])), (a5, .inl (cB31, 5, .inl f32))] := hD
            have hK : va_K (dC, dI) vwCl [(cB29, .int), (cB31, .int)] s := hK
            refine lv_if_eq (tgt := 52) hx hb dX4_isTangled_47 (by decide) (fun c77 => ?_) (fun c77 => ?_)
            · simp only [fa_lt, fa_le, fa_eq, ltv_0] at c77
              obtain ⟨z78, ez78⟩ : ∃ y : Int32, y = z64 + 1 := ⟨_, rfl⟩
              have tz78 : z78.toInt = z64.toInt + 1 := by rw [ez78, iadd_t (by simp only [ltv_1]; omega) (by simp only [ltv_1]; omega)]; simp only [ltv_1]
              refine lv_iinc (v := z78) (lv' := [(4, .int z78), (0, .ref a0), (1, .ref a1), (2, .int k2), (3, .int k3)]) hx hb dX4_isTangled_52 hl (k := 0) rfl (by rw [ez78]; rfl) (by decide) rfl (fun ls hl => ?_)
              refine lv_goto (tgt := 3) hx hb dX4_isTangled_55 (by decide) ?_
              exact ih3 z78 H locs ls (by first | omega | (simp only [ltv_0]; omega)) (by first | omega | (simp only [ltv_0]; omega)) (hP.sub (ws' := [(a0, .inr (3, [g6, g7, g8, g9, g10, g11, .ref a4])), (a1, .inr (4, [g12, g13, g14, g15, g16, .int k17, g18, g19, g20, .ref a5, g21, g22, g23, g24, g25, g26, g27, g28])), (a4, .inl (cB29, 5, .inl f30)), (a5, .inl (cB31, 5, .inl f32))]) [0, 2, 1, 3] rfl) (hD.sub (ws' := [(a0, .inr (3, [g6, g7, g8, g9, g10, g11, .ref a4])), (a1, .inr (4, [g12, g13, g14, g15, g16, .int k17, g18, g19, g20, .ref a5, g21, g22, g23, g24, g25, g26, g27, g28])), (a4, .inl (cB29, 5, .inl f30)), (a5, .inl (cB31, 5, .inl f32))]) [0, 2, 1, 3] (by decide) rfl) hS (lv_sub hl [0, 1, 2, 3, 4] rfl)
            · simp only [fa_lt, fa_le, fa_eq, ltv_0] at c77
              refine lv_iconst (v := 1) hx hb dX4_isTangled_50 (by decide) ?_
              have hP9 := hP.sub (ws' := [(a0, .inr (3, [g6, g7, g8, g9, g10, g11, .ref a4])), (a1, .inr (4, [g12, g13, g14, g15, g16, .int k17, g18, g19, g20, .ref a5, g21, g22, g23, g24, g25, g26, g27, g28])), (a4, .inl (cB29, 5, .inl f30)), (a5, .inl (cB31, 5, .inl f32))]) [0, 2, 1, 3] rfl
              have hD9 := hD.sub (ws' := [(a0, .inr (3, [g6, g7, g8, g9, g10, g11, .ref a4])), (a1, .inr (4, [g12, g13, g14, g15, g16, .int k17, g18, g19, g20, .ref a5, g21, g22, g23, g24, g25, g26, g27, g28])), (a4, .inl (cB29, 5, .inl f30)), (a5, .inl (cB31, 5, .inl f32))]) [0, 2, 1, 3] (by decide) rfl
              have hK9 := hK.sub (tys' := []) [] rfl
              exact W.zret (v := 1) hx hb hr rfl (fun t ht hW => ⟨⟨1, (), rfl, (by first | trivial | omega | (simp only [ltv_0, ltv_1]; omega)), by rw [ht]; exact hP9, va_K.moved hW.alike hK9, hD9⟩, hS.F ht⟩) hS.2.2 dX4_isTangled_51
  exact L3_65 6 (0) s.heap _ ls (by first | omega | (simp only [ltv_0]; omega)) (by first | omega | (simp only [ltv_0]; omega)) hP hD hS (lv_sub hl [0, 1, 2, 3, 4] rfl)
theorem dX4_draw_0 : decode cX4_draw 0 = .ok (.aload_n 0, 1) := by decide +kernel
theorem dX4_draw_1 : decode cX4_draw 1 = .ok (.bipush 75, 2) := by decide +kernel
theorem dX4_draw_10 : decode cX4_draw 10 = .ok (.iadd, 1) := by decide +kernel
theorem dX4_draw_11 : decode cX4_draw 11 = .ok (.ldc 57, 2) := by decide +kernel
theorem dX4_draw_13 : decode cX4_draw 13 = .ok (.irem, 1) := by decide +kernel
theorem dX4_draw_14 : decode cX4_draw 14 = .ok (.putfield 15, 3) := by decide +kernel
theorem dX4_draw_17 : decode cX4_draw 17 = .ok (.aload_n 0, 1) := by decide +kernel
theorem dX4_draw_18 : decode cX4_draw 18 = .ok (.getfield 15, 3) := by decide +kernel
theorem dX4_draw_21 : decode cX4_draw 21 = .ok (.bipush 100, 2) := by decide +kernel
theorem dX4_draw_23 : decode cX4_draw 23 = .ok (.irem, 1) := by decide +kernel
theorem dX4_draw_24 : decode cX4_draw 24 = .ok (.ireturn, 1) := by decide +kernel
theorem dX4_draw_3 : decode cX4_draw 3 = .ok (.aload_n 0, 1) := by decide +kernel
theorem dX4_draw_4 : decode cX4_draw 4 = .ok (.getfield 15, 3) := by decide +kernel
theorem dX4_draw_7 : decode cX4_draw 7 = .ok (.imul, 1) := by decide +kernel
theorem dX4_draw_8 : decode cX4_draw 8 = .ok (.bipush 74, 2) := by decide +kernel
def vX4_draw : List Cond := .code yX4_draw cX4_draw 1 (some .int) :: ([.fieldLink RX4 15 "HookPier$Now" "seedNow" "I", .constant RX4 57 (65537)] ++ wsX40)
theorem iX4_draw_X4 : ∀ w ∈ wsX40, w ∈ vX4_draw := fun _ h => List.mem_cons_of_mem _ (List.mem_append_right _ h)
set_option maxHeartbeats 2000000 in
set_option maxRecDepth 100000 in
theorem kX4_draw (l : Launch) (dC : Nat → ClassId) (dI : Nat → Nat → Nat) (a0 : Nat) (g1 : Value) (k2 : Int32) (g3 : Value) (g4 : Value) (g5 : Value) (g6 : Value) (g7 : Value) (sz : Nat) : Met l yX4_draw vX4_draw ({ frames := 0, cells := 0, slots := 0, locals := 0 }) (PC (dC, dI) [.ref a0] sz [(a0, .inr (3, [g1, .int k2, g3, g4, g5, g6, g7]))] []) (va_Qi (S := Int32) (fun (r : Int32) u => True) (fun u t => BC (dC, dI) (va_A [(a0, .inr (3, [g1, .int k2, g3, g4, g5, g6, g7]))] sz) [(a0, .inr (3, [g1, .int u, g3, g4, g5, g6, g7]))] [] t) (va_A [(a0, .inr (3, [g1, .int k2, g3, g4, g5, g6, g7]))] sz)) 0 0 (va_A [(a0, .inr (3, [g1, .int k2, g3, g4, g5, g6, g7]))] sz) := by
  refine Met.ofW (cc := cX4_draw) (maxL := 1) (ret := (some .int)) (by decide) rfl ?_
  intro p e s m args below meth c s₁ B hml hv
  obtain ⟨rfl, hsz, hP, hK, hD0, hN⟩ := hv
  have hx := B.exec
  have hb := B.bytes
  have hr := B.returns
  have hts := atoms_spec (ws := vX4_draw) B.pre
  have hown : s.vm.findClass RX4 = some m.cls := findClass_of_methodNamed B.named
  have hlocks := B.notSynchronized
  subst hsz
  have hD := hD0.self (sz := s.heap.size)
  generalize hAe : va_A [(a0, .inr (3, [g1, .int k2, g3, g4, g5, g6, g7]))] s.heap.size = A at hD ⊢
  have hA : ∀ q : Nat, s.heap.size ≤ q → A q := fun q h => by rw [← hAe]; exact Or.inr h
  have hS : va_S A s.heap s.heap [] := va_S.rf
  have hP : va_P (dC, dI) vwCl [(a0, .inr (3, [g1, .int k2, g3, g4, g5, g6, g7]))] s.heap := hP
  have hl := lv_entry ([.ref a0]) (n := 1) (Nat.le_of_ble_eq_true rfl)
  rw [lg_entry_eq]
  generalize (lg_sl ([.ref a0]) ++ List.replicate (1 - (lg_sl ([.ref a0])).length) Slot.unset).toArray = ls at hl ⊢
  have hl : lv_has ls 1 [(0, .ref a0)] := hl
  refine lv_aload_n hx hb dX4_draw_0 rfl (lv_at hl 0 rfl) ?_
  refine lv_bipush (v := 75) hx hb dX4_draw_1 (by decide) ?_
  refine lv_aload_n hx hb dX4_draw_3 rfl (lv_at hl 0 rfl) ?_
  refine va_get (D := (dC, dI)) (ci := 3) (v := .int k2) (C := RX4) (T := TX4) (N := 7) hx hb hts iX4_draw_X4 hown hK hP 0 rfl rfl 1 (by decide) (hts (.fieldLink RX4 15 "HookPier$Now" "seedNow" "I") (List.mem_of_getElem? (i := 1) rfl)) (fun _ h9 => h9) rfl dX4_draw_4 ?_
  refine lv_imul hx hb dX4_draw_7 ?_
  refine lv_topi (fun z1 ez1 => ?_)
  clear ez1
  refine lv_bipush (v := 74) hx hb dX4_draw_8 (by decide) ?_
  refine lv_iadd hx hb dX4_draw_10 ?_
  refine lv_topi (fun z2 ez2 => ?_)
  clear ez2
  refine lv_ldc hx hb hown (hts (.constant RX4 57 (65537)) (List.mem_of_getElem? (i := 2) rfl)) dX4_draw_11 ?_
  refine lv_irem hx hb dX4_draw_13 (by decide) ?_
  refine lv_topi (fun z3 ez3 => ?_)
  clear ez3
  refine va_put (D := (dC, dI)) (ci := 3) (v := .int z3) (ty := .int) (C := RX4) (T := TX4) (N := 7) hx hb hts iX4_draw_X4 tyX4 tyX4_ok nmX4 hown hK hP hD hS 0 rfl rfl 1 (by decide) (hts (.fieldLink RX4 15 "HookPier$Now" "seedNow" "I") (List.mem_of_getElem? (i := 1) rfl)) (fun _ h9 => h9) rfl (by decide +kernel) rfl rfl (Nat.le_of_ble_eq_true rfl) dX4_draw_14 (fun H locs hP hD hS => ?_)
  have hP : va_P (dC, dI) vwCl [(a0, .inr (3, [g1, .int z3, g3, g4, g5, g6, g7]))] H := hP
  have hD : va_D A [(a0, .inr (3, [g1, .int z3, g3, g4, g5, g6, g7]))] := hD
  refine lv_aload_n hx hb dX4_draw_17 rfl (lv_at hl 0 rfl) ?_
  refine va_get (D := (dC, dI)) (ci := 3) (v := .int z3) (C := RX4) (T := TX4) (N := 7) hx hb hts iX4_draw_X4 hown hK hP 0 rfl rfl 1 (by decide) (hts (.fieldLink RX4 15 "HookPier$Now" "seedNow" "I") (List.mem_of_getElem? (i := 1) rfl)) (fun _ h9 => h9) rfl dX4_draw_18 ?_
  refine lv_bipush (v := 100) hx hb dX4_draw_21 (by decide) ?_
  refine lv_irem hx hb dX4_draw_23 (by decide) ?_
  refine lv_topi (fun z4 ez4 => ?_)
  clear ez4
  have hP9 := hP.sub (ws' := [(a0, .inr (3, [g1, .int z3, g3, g4, g5, g6, g7]))]) [0] rfl
  have hD9 := hD.sub (ws' := [(a0, .inr (3, [g1, .int z3, g3, g4, g5, g6, g7]))]) [0] (by decide) rfl
  have hK9 := hK.sub (tys' := []) [] rfl
  exact W.iret (v := z4) hx hb hr (fun t ht hW => ⟨⟨z4, z3, rfl, trivial, by rw [ht]; exact hP9, va_K.moved hW.alike hK9, hD9⟩, hS.F ht⟩) hS.2.2 dX4_draw_24
theorem dX4_land_0 : decode cX4_land 0 = .ok (.aload_n 0, 1) := by decide +kernel
theorem dX4_land_1 : decode cX4_land 1 = .ok (.getfield 21, 3) := by decide +kernel
theorem dX4_land_11 : decode cX4_land 11 = .ok (.iload_n 1, 1) := by decide +kernel
theorem dX4_land_12 : decode cX4_land 12 = .ok (.aload_n 0, 1) := by decide +kernel
theorem dX4_land_13 : decode cX4_land 13 = .ok (.getfield 9, 3) := by decide +kernel
theorem dX4_land_16 : decode cX4_land 16 = .ok (.iastore, 1) := by decide +kernel
theorem dX4_land_17 : decode cX4_land 17 = .ok (.aload_n 0, 1) := by decide +kernel
theorem dX4_land_18 : decode cX4_land 18 = .ok (.getfield 28, 3) := by decide +kernel
theorem dX4_land_21 : decode cX4_land 21 = .ok (.iload_n 1, 1) := by decide +kernel
theorem dX4_land_22 : decode cX4_land 22 = .ok (.iload_n 2, 1) := by decide +kernel
theorem dX4_land_23 : decode cX4_land 23 = .ok (.iastore, 1) := by decide +kernel
theorem dX4_land_24 : decode cX4_land 24 = .ok (.return_, 1) := by decide +kernel
theorem dX4_land_4 : decode cX4_land 4 = .ok (.iload_n 1, 1) := by decide +kernel
theorem dX4_land_5 : decode cX4_land 5 = .ok (.iconst 1, 1) := by decide +kernel
theorem dX4_land_6 : decode cX4_land 6 = .ok (.iastore, 1) := by decide +kernel
theorem dX4_land_7 : decode cX4_land 7 = .ok (.aload_n 0, 1) := by decide +kernel
theorem dX4_land_8 : decode cX4_land 8 = .ok (.getfield 25, 3) := by decide +kernel
def vX4_land : List Cond := .code yX4_land cX4_land 3 none :: ([.fieldLink RX4 21 "HookPier$Now" "stage" "[I", .fieldLink RX4 25 "HookPier$Now" "landedOn" "[I", .fieldLink RX4 9 "HookPier$Now" "today" "I", .fieldLink RX4 28 "HookPier$Now" "landedBy" "[I"] ++ wsX40)
theorem iX4_land_X4 : ∀ w ∈ wsX40, w ∈ vX4_land := fun _ h => List.mem_cons_of_mem _ (List.mem_append_right _ h)
set_option maxHeartbeats 2000000 in
set_option maxRecDepth 100000 in
theorem kX4_land (l : Launch) (dC : Nat → ClassId) (dI : Nat → Nat → Nat) (a0 : Nat) (k1 : Int32) (k2 : Int32) (a3 : Nat) (a4 : Nat) (a5 : Nat) (k6 : Int32) (g7 : Value) (g8 : Value) (g9 : Value) (cB10 : ClassId) (f11 : Nat → Int32) (cB12 : ClassId) (f13 : Nat → Int32) (cB14 : ClassId) (f15 : Nat → Int32) (hk1 : (0 ≤ k1.toInt ∧ k1.toInt ≤ 5)) (sz : Nat) : Met l yX4_land vX4_land ({ frames := 0, cells := 0, slots := 0, locals := 0 }) (PC (dC, dI) [.ref a0, .int k1, .int k2] sz [(a0, .inr (3, [.int k6, g7, g8, .ref a3, .ref a4, .ref a5, g9])), (a3, .inl (cB10, 6, .inl f11)), (a4, .inl (cB12, 6, .inl f13)), (a5, .inl (cB14, 6, .inl f15))] [(cB10, .int), (cB12, .int), (cB14, .int)]) (va_Qv (S := (Nat → Int32) × (Nat → Int32) × (Nat → Int32)) (fun u => True) (fun u t => BC (dC, dI) (va_A [(a0, .inr (3, [.int k6, g7, g8, .ref a3, .ref a4, .ref a5, g9])), (a3, .inl (cB10, 6, .inl f11)), (a4, .inl (cB12, 6, .inl f13)), (a5, .inl (cB14, 6, .inl f15))] sz) [(a0, .inr (3, [.int k6, g7, g8, .ref a3, .ref a4, .ref a5, g9])), (a3, .inl (cB10, 6, .inl (u.1))), (a4, .inl (cB12, 6, .inl (u.2.1))), (a5, .inl (cB14, 6, .inl (u.2.2)))] [] t) (va_A [(a0, .inr (3, [.int k6, g7, g8, .ref a3, .ref a4, .ref a5, g9])), (a3, .inl (cB10, 6, .inl f11)), (a4, .inl (cB12, 6, .inl f13)), (a5, .inl (cB14, 6, .inl f15))] sz)) 0 0 (va_A [(a0, .inr (3, [.int k6, g7, g8, .ref a3, .ref a4, .ref a5, g9])), (a3, .inl (cB10, 6, .inl f11)), (a4, .inl (cB12, 6, .inl f13)), (a5, .inl (cB14, 6, .inl f15))] sz) := by
  refine Met.ofW (cc := cX4_land) (maxL := 3) (ret := none) (by decide) rfl ?_
  intro p e s m args below meth c s₁ B hml hv
  obtain ⟨rfl, hsz, hP, hK, hD0, hN⟩ := hv
  have hx := B.exec
  have hb := B.bytes
  have hr := B.returns
  have hts := atoms_spec (ws := vX4_land) B.pre
  have hown : s.vm.findClass RX4 = some m.cls := findClass_of_methodNamed B.named
  have hlocks := B.notSynchronized
  subst hsz
  have hD := hD0.self (sz := s.heap.size)
  generalize hAe : va_A [(a0, .inr (3, [.int k6, g7, g8, .ref a3, .ref a4, .ref a5, g9])), (a3, .inl (cB10, 6, .inl f11)), (a4, .inl (cB12, 6, .inl f13)), (a5, .inl (cB14, 6, .inl f15))] s.heap.size = A at hD ⊢
  have hA : ∀ q : Nat, s.heap.size ≤ q → A q := fun q h => by rw [← hAe]; exact Or.inr h
  have hS : va_S A s.heap s.heap [] := va_S.rf
  have hP : va_P (dC, dI) vwCl [(a0, .inr (3, [.int k6, g7, g8, .ref a3, .ref a4, .ref a5, g9])), (a3, .inl (cB10, 6, .inl f11)), (a4, .inl (cB12, 6, .inl f13)), (a5, .inl (cB14, 6, .inl f15))] s.heap := hP
  have hl := lv_entry ([.ref a0, .int k1, .int k2]) (n := 3) (Nat.le_of_ble_eq_true rfl)
  rw [lg_entry_eq]
  generalize (lg_sl ([.ref a0, .int k1, .int k2]) ++ List.replicate (3 - (lg_sl ([.ref a0, .int k1, .int k2])).length) Slot.unset).toArray = ls at hl ⊢
  have hl : lv_has ls 3 [(0, .ref a0), (1, .int k1), (2, .int k2)] := hl
  refine lv_aload_n hx hb dX4_land_0 rfl (lv_at hl 0 rfl) ?_
  refine va_get (D := (dC, dI)) (ci := 3) (v := .ref a3) (C := RX4) (T := TX4) (N := 7) hx hb hts iX4_land_X4 hown hK hP 0 rfl rfl 3 (by decide) (hts (.fieldLink RX4 21 "HookPier$Now" "stage" "[I") (List.mem_of_getElem? (i := 1) rfl)) (fun _ h9 => h9) rfl dX4_land_1 ?_
  refine lv_iload_n hx hb dX4_land_4 rfl (lv_at hl 1 rfl) ?_
  refine lv_iconst (v := 1) hx hb dX4_land_5 (by decide) ?_
  refine va_iast hx hb hK hP hD hS 1 0 rfl rfl (vp_in_iff.mpr (by omega)) dX4_land_6 (fun H locs hP hD hS => ?_)
  have hP : va_P (dC, dI) vwCl [(a0, .inr (3, [.int k6, g7, g8, .ref a3, .ref a4, .ref a5, g9])), (a3, .inl (cB10, 6, .inl (upd f11 (k1 : Int32).toNatClampNeg 1))), (a4, .inl (cB12, 6, .inl f13)), (a5, .inl (cB14, 6, .inl f15))] H := hP
  have hD : va_D A [(a0, .inr (3, [.int k6, g7, g8, .ref a3, .ref a4, .ref a5, g9])), (a3, .inl (cB10, 6, .inl (upd f11 (k1 : Int32).toNatClampNeg 1))), (a4, .inl (cB12, 6, .inl f13)), (a5, .inl (cB14, 6, .inl f15))] := hD
  generalize upd f11 (k1 : Int32).toNatClampNeg 1 = f1 at hP hD
  refine lv_aload_n hx hb dX4_land_7 rfl (lv_at hl 0 rfl) ?_
  refine va_get (D := (dC, dI)) (ci := 3) (v := .ref a4) (C := RX4) (T := TX4) (N := 7) hx hb hts iX4_land_X4 hown hK hP 0 rfl rfl 4 (by decide) (hts (.fieldLink RX4 25 "HookPier$Now" "landedOn" "[I") (List.mem_of_getElem? (i := 2) rfl)) (fun _ h9 => h9) rfl dX4_land_8 ?_
  refine lv_iload_n hx hb dX4_land_11 rfl (lv_at hl 1 rfl) ?_
  refine lv_aload_n hx hb dX4_land_12 rfl (lv_at hl 0 rfl) ?_
  refine va_get (D := (dC, dI)) (ci := 3) (v := .int k6) (C := RX4) (T := TX4) (N := 7) hx hb hts iX4_land_X4 hown hK hP 0 rfl rfl 0 (by decide) (hts (.fieldLink RX4 9 "HookPier$Now" "today" "I") (List.mem_of_getElem? (i := 3) rfl)) (fun _ h9 => h9) rfl dX4_land_13 ?_
  refine va_iast hx hb hK hP hD hS 2 1 rfl rfl (vp_in_iff.mpr (by omega)) dX4_land_16 (fun H locs hP hD hS => ?_)
  have hP : va_P (dC, dI) vwCl [(a0, .inr (3, [.int k6, g7, g8, .ref a3, .ref a4, .ref a5, g9])), (a3, .inl (cB10, 6, .inl f1)), (a4, .inl (cB12, 6, .inl (upd f13 (k1 : Int32).toNatClampNeg k6))), (a5, .inl (cB14, 6, .inl f15))] H := hP
  have hD : va_D A [(a0, .inr (3, [.int k6, g7, g8, .ref a3, .ref a4, .ref a5, g9])), (a3, .inl (cB10, 6, .inl f1)), (a4, .inl (cB12, 6, .inl (upd f13 (k1 : Int32).toNatClampNeg k6))), (a5, .inl (cB14, 6, .inl f15))] := hD
  generalize upd f13 (k1 : Int32).toNatClampNeg k6 = f2 at hP hD
  refine lv_aload_n hx hb dX4_land_17 rfl (lv_at hl 0 rfl) ?_
  refine va_get (D := (dC, dI)) (ci := 3) (v := .ref a5) (C := RX4) (T := TX4) (N := 7) hx hb hts iX4_land_X4 hown hK hP 0 rfl rfl 5 (by decide) (hts (.fieldLink RX4 28 "HookPier$Now" "landedBy" "[I") (List.mem_of_getElem? (i := 4) rfl)) (fun _ h9 => h9) rfl dX4_land_18 ?_
  refine lv_iload_n hx hb dX4_land_21 rfl (lv_at hl 1 rfl) ?_
  refine lv_iload_n hx hb dX4_land_22 rfl (lv_at hl 2 rfl) ?_
  refine va_iast hx hb hK hP hD hS 3 2 rfl rfl (vp_in_iff.mpr (by omega)) dX4_land_23 (fun H locs hP hD hS => ?_)
  have hP : va_P (dC, dI) vwCl [(a0, .inr (3, [.int k6, g7, g8, .ref a3, .ref a4, .ref a5, g9])), (a3, .inl (cB10, 6, .inl f1)), (a4, .inl (cB12, 6, .inl f2)), (a5, .inl (cB14, 6, .inl (upd f15 (k1 : Int32).toNatClampNeg k2)))] H := hP
  have hD : va_D A [(a0, .inr (3, [.int k6, g7, g8, .ref a3, .ref a4, .ref a5, g9])), (a3, .inl (cB10, 6, .inl f1)), (a4, .inl (cB12, 6, .inl f2)), (a5, .inl (cB14, 6, .inl (upd f15 (k1 : Int32).toNatClampNeg k2)))] := hD
  generalize upd f15 (k1 : Int32).toNatClampNeg k2 = f3 at hP hD
  have hP9 := hP.sub (ws' := [(a0, .inr (3, [.int k6, g7, g8, .ref a3, .ref a4, .ref a5, g9])), (a3, .inl (cB10, 6, .inl f1)), (a4, .inl (cB12, 6, .inl f2)), (a5, .inl (cB14, 6, .inl f3))]) [0, 1, 2, 3] rfl
  have hD9 := hD.sub (ws' := [(a0, .inr (3, [.int k6, g7, g8, .ref a3, .ref a4, .ref a5, g9])), (a3, .inl (cB10, 6, .inl f1)), (a4, .inl (cB12, 6, .inl f2)), (a5, .inl (cB14, 6, .inl f3))]) [0, 1, 2, 3] (by decide) rfl
  have hK9 := hK.sub (tys' := []) [] rfl
  exact W.vret hx hb hr (fun t ht hW => ⟨⟨(f1, f2, f3), rfl, trivial, by rw [ht]; exact hP9, va_K.moved hW.alike hK9, hD9⟩, hS.F ht⟩) hS.2.2 dX4_land_24
theorem dX3_unsold_0 : decode cX3_unsold 0 = .ok (.iconst 0, 1) := by decide +kernel
theorem dX3_unsold_1 : decode cX3_unsold 1 = .ok (.istore_n 2, 1) := by decide +kernel
theorem dX3_unsold_12 : decode cX3_unsold 12 = .ok (.aload_n 1, 1) := by decide +kernel
theorem dX3_unsold_13 : decode cX3_unsold 13 = .ok (.getfield 25, 3) := by decide +kernel
theorem dX3_unsold_16 : decode cX3_unsold 16 = .ok (.iload_n 3, 1) := by decide +kernel
theorem dX3_unsold_17 : decode cX3_unsold 17 = .ok (.iaload, 1) := by decide +kernel
theorem dX3_unsold_18 : decode cX3_unsold 18 = .ok (.iconst 1, 1) := by decide +kernel
theorem dX3_unsold_19 : decode cX3_unsold 19 = .ok (.if_icmp .ne 9, 3) := by decide +kernel
theorem dX3_unsold_2 : decode cX3_unsold 2 = .ok (.iconst 0, 1) := by decide +kernel
theorem dX3_unsold_22 : decode cX3_unsold 22 = .ok (.iload_n 2, 1) := by decide +kernel
theorem dX3_unsold_23 : decode cX3_unsold 23 = .ok (.iconst 1, 1) := by decide +kernel
theorem dX3_unsold_24 : decode cX3_unsold 24 = .ok (.iload_n 3, 1) := by decide +kernel
theorem dX3_unsold_25 : decode cX3_unsold 25 = .ok (.ishl, 1) := by decide +kernel
theorem dX3_unsold_26 : decode cX3_unsold 26 = .ok (.ior, 1) := by decide +kernel
theorem dX3_unsold_27 : decode cX3_unsold 27 = .ok (.istore_n 2, 1) := by decide +kernel
theorem dX3_unsold_28 : decode cX3_unsold 28 = .ok (.iinc 3 1, 3) := by decide +kernel
theorem dX3_unsold_3 : decode cX3_unsold 3 = .ok (.istore_n 3, 1) := by decide +kernel
theorem dX3_unsold_31 : decode cX3_unsold 31 = .ok (.goto (-27), 3) := by decide +kernel
theorem dX3_unsold_34 : decode cX3_unsold 34 = .ok (.iload_n 2, 1) := by decide +kernel
theorem dX3_unsold_35 : decode cX3_unsold 35 = .ok (.ireturn, 1) := by decide +kernel
theorem dX3_unsold_4 : decode cX3_unsold 4 = .ok (.iload_n 3, 1) := by decide +kernel
theorem dX3_unsold_5 : decode cX3_unsold 5 = .ok (.aload_n 0, 1) := by decide +kernel
theorem dX3_unsold_6 : decode cX3_unsold 6 = .ok (.getfield 21, 3) := by decide +kernel
theorem dX3_unsold_9 : decode cX3_unsold 9 = .ok (.if_icmp .ge 25, 3) := by decide +kernel
def vX3_unsold : List Cond := .code yX3_unsold cX3_unsold 4 (some .int) :: ([.fieldLink RX3 21 "HookPier$Plan" "answers" "I", .fieldLink RX3 25 "HookPier$Now" "stage" "[I"] ++ wsX60 ++ wsX40)
theorem iX3_unsold_X6 : ∀ w ∈ wsX60, w ∈ vX3_unsold := fun _ h => List.mem_cons_of_mem _ (List.mem_append_left _ (List.mem_append_right _ h))
theorem iX3_unsold_X4 : ∀ w ∈ wsX40, w ∈ vX3_unsold := fun _ h => List.mem_cons_of_mem _ (List.mem_append_right _ h)
set_option maxHeartbeats 2000000 in
set_option maxRecDepth 100000 in
theorem kX3_unsold (l : Launch) (dC : Nat → ClassId) (dI : Nat → Nat → Nat) (a0 : Nat) (a1 : Nat) (a2 : Nat) (g3 : Value) (g4 : Value) (g5 : Value) (g6 : Value) (g7 : Value) (g8 : Value) (k9 : Int32) (g10 : Value) (g11 : Value) (g12 : Value) (g13 : Value) (g14 : Value) (g15 : Value) (g16 : Value) (g17 : Value) (g18 : Value) (g19 : Value) (g20 : Value) (g21 : Value) (g22 : Value) (g23 : Value) (g24 : Value) (g25 : Value) (g26 : Value) (cB27 : ClassId) (f28 : Nat → Int32) (hk9 : (0 ≤ k9.toInt ∧ k9.toInt ≤ 6)) (sz : Nat) : Met l yX3_unsold vX3_unsold ({ frames := 0, cells := 0, slots := 0, locals := 0 }) (PC (dC, dI) [.ref a0, .ref a1] sz [(a0, .inr (4, [g3, g4, g5, g6, g7, g8, .int k9, g10, g11, g12, g13, g14, g15, g16, g17, g18, g19, g20])), (a1, .inr (3, [g21, g22, g23, .ref a2, g24, g25, g26])), (a2, .inl (cB27, 6, .inl f28))] [(cB27, .int)]) (va_Qi (S := Unit) (fun (r : Int32) _ => (0 ≤ r.toInt ∧ r.toInt ≤ 63)) (fun _ t => BC (dC, dI) (va_A [(a0, .inr (4, [g3, g4, g5, g6, g7, g8, .int k9, g10, g11, g12, g13, g14, g15, g16, g17, g18, g19, g20])), (a1, .inr (3, [g21, g22, g23, .ref a2, g24, g25, g26])), (a2, .inl (cB27, 6, .inl f28))] sz) [(a0, .inr (4, [g3, g4, g5, g6, g7, g8, .int k9, g10, g11, g12, g13, g14, g15, g16, g17, g18, g19, g20])), (a1, .inr (3, [g21, g22, g23, .ref a2, g24, g25, g26])), (a2, .inl (cB27, 6, .inl f28))] [] t) (va_A [(a0, .inr (4, [g3, g4, g5, g6, g7, g8, .int k9, g10, g11, g12, g13, g14, g15, g16, g17, g18, g19, g20])), (a1, .inr (3, [g21, g22, g23, .ref a2, g24, g25, g26])), (a2, .inl (cB27, 6, .inl f28))] sz)) 0 0 (va_A [(a0, .inr (4, [g3, g4, g5, g6, g7, g8, .int k9, g10, g11, g12, g13, g14, g15, g16, g17, g18, g19, g20])), (a1, .inr (3, [g21, g22, g23, .ref a2, g24, g25, g26])), (a2, .inl (cB27, 6, .inl f28))] sz) := by
  refine Met.ofW (cc := cX3_unsold) (maxL := 4) (ret := (some .int)) (by decide) rfl ?_
  intro p e s m args below meth c s₁ B hml hv
  obtain ⟨rfl, hsz, hP, hK, hD0, hN⟩ := hv
  have hx := B.exec
  have hb := B.bytes
  have hr := B.returns
  have hts := atoms_spec (ws := vX3_unsold) B.pre
  have hown : s.vm.findClass RX3 = some m.cls := findClass_of_methodNamed B.named
  have hlocks := B.notSynchronized
  subst hsz
  have hD := hD0.self (sz := s.heap.size)
  generalize hAe : va_A [(a0, .inr (4, [g3, g4, g5, g6, g7, g8, .int k9, g10, g11, g12, g13, g14, g15, g16, g17, g18, g19, g20])), (a1, .inr (3, [g21, g22, g23, .ref a2, g24, g25, g26])), (a2, .inl (cB27, 6, .inl f28))] s.heap.size = A at hD ⊢
  have hA : ∀ q : Nat, s.heap.size ≤ q → A q := fun q h => by rw [← hAe]; exact Or.inr h
  have hS : va_S A s.heap s.heap [] := va_S.rf
  have hP : va_P (dC, dI) vwCl [(a0, .inr (4, [g3, g4, g5, g6, g7, g8, .int k9, g10, g11, g12, g13, g14, g15, g16, g17, g18, g19, g20])), (a1, .inr (3, [g21, g22, g23, .ref a2, g24, g25, g26])), (a2, .inl (cB27, 6, .inl f28))] s.heap := hP
  have hl := lv_entry ([.ref a0, .ref a1]) (n := 4) (Nat.le_of_ble_eq_true rfl)
  rw [lg_entry_eq]
  generalize (lg_sl ([.ref a0, .ref a1]) ++ List.replicate (4 - (lg_sl ([.ref a0, .ref a1])).length) Slot.unset).toArray = ls at hl ⊢
  have hl : lv_has ls 4 [(0, .ref a0), (1, .ref a1)] := hl
  refine lv_iconst (v := 0) hx hb dX3_unsold_0 (by decide) ?_
  refine lv_istore_n (lv' := [(2, .int 0), (0, .ref a0), (1, .ref a1)]) hx hb dX3_unsold_1 rfl hl (by decide) rfl (fun ls hl => ?_)
  refine lv_iconst (v := 0) hx hb dX3_unsold_2 (by decide) ?_
  refine lv_istore_n (lv' := [(3, .int 0), (2, .int 0), (0, .ref a0), (1, .ref a1)]) hx hb dX3_unsold_3 rfl hl (by decide) rfl (fun ls hl => ?_)
  have L4_50 : ∀ (n : Nat) (z48 : Int32) (z49 : Int32) (H : Heap) (locs : List Loc) (ls : Array Slot), (0 ≤ z48.toInt ∧ z48.toInt ≤ 6) → (0 ≤ z49.toInt ∧ z49.toInt ≤ 63) → 6 - z48.toInt < (n : Int) → va_P (dC, dI) vwCl [(a0, .inr (4, [g3, g4, g5, g6, g7, g8, .int k9, g10, g11, g12, g13, g14, g15, g16, g17, g18, g19, g20])), (a1, .inr (3, [g21, g22, g23, .ref a2, g24, g25, g26])), (a2, .inl (cB27, 6, .inl f28))] H → va_D A [(a0, .inr (4, [g3, g4, g5, g6, g7, g8, .int k9, g10, g11, g12, g13, g14, g15, g16, g17, g18, g19, g20])), (a1, .inr (3, [g21, g22, g23, .ref a2, g24, g25, g26])), (a2, .inl (cB27, 6, .inl f28))] → va_S A s.heap H locs → lv_has ls 4 [(3, .int z48), (2, .int z49), (0, .ref a0), (1, .ref a1)] → W p l e (headSpec vX3_unsold { frames := 0, cells := 0, slots := 0, locals := 0 }).room s m ([.ref a0, .ref a1]).toArray below meth c H locs 0 0 (MQ below (va_Qi (S := Unit) (fun (r : Int32) _ => (0 ≤ r.toInt ∧ r.toInt ≤ 63)) (fun _ t => BC (dC, dI) A [(a0, .inr (4, [g3, g4, g5, g6, g7, g8, .int k9, g10, g11, g12, g13, g14, g15, g16, g17, g18, g19, g20])), (a1, .inr (3, [g21, g22, g23, .ref a2, g24, g25, g26])), (a2, .inl (cB27, 6, .inl f28))] [] t) A) ([.ref a0, .ref a1]).toArray s 0 0 A) (F0 m 4 ls []) := by
    intro n
    induction n with
    | zero =>
      intro z48 z49 H locs ls b4_0 b4_1 hm _ _ _ _
      exact absurd hm (by omega)
    | succ n ih4 =>
      intro z48 z49 H locs ls b4_0 b4_1 hm4 hP hD hS hl
      refine lv_iload_n hx hb dX3_unsold_4 rfl (lv_at hl 0 rfl) ?_
      refine lv_aload_n hx hb dX3_unsold_5 rfl (lv_at hl 2 rfl) ?_
      refine va_get (D := (dC, dI)) (ci := 4) (v := .int k9) (C := RX6) (T := TX6) (N := 18) hx hb hts iX3_unsold_X6 hown hK hP 0 rfl rfl 6 (by decide) (hts (.fieldLink RX3 21 "HookPier$Plan" "answers" "I") (List.mem_of_getElem? (i := 1) rfl)) (fun _ h9 => h9) rfl dX3_unsold_6 ?_
      refine lv_icmp_ge (tgt := 34) hx hb dX3_unsold_9 (by decide) (fun c51 => ?_) (fun c51 => ?_)
      · simp only [fa_lt, fa_le, fa_eq, ltv_0] at c51
        refine lv_iload_n hx hb dX3_unsold_34 rfl (lv_at hl 1 rfl) ?_
        have hP9 := hP.sub (ws' := [(a0, .inr (4, [g3, g4, g5, g6, g7, g8, .int k9, g10, g11, g12, g13, g14, g15, g16, g17, g18, g19, g20])), (a1, .inr (3, [g21, g22, g23, .ref a2, g24, g25, g26])), (a2, .inl (cB27, 6, .inl f28))]) [0, 1, 2] rfl
        have hD9 := hD.sub (ws' := [(a0, .inr (4, [g3, g4, g5, g6, g7, g8, .int k9, g10, g11, g12, g13, g14, g15, g16, g17, g18, g19, g20])), (a1, .inr (3, [g21, g22, g23, .ref a2, g24, g25, g26])), (a2, .inl (cB27, 6, .inl f28))]) [0, 1, 2] (by decide) rfl
        have hK9 := hK.sub (tys' := []) [] rfl
        exact W.iret (v := z49) hx hb hr (fun t ht hW => ⟨⟨z49, (), rfl, (by first | trivial | omega | (simp only [ltv_0]; omega)), by rw [ht]; exact hP9, va_K.moved hW.alike hK9, hD9⟩, hS.F ht⟩) hS.2.2 dX3_unsold_35
      · simp only [fa_lt, fa_le, fa_eq, ltv_0] at c51
        refine lv_aload_n hx hb dX3_unsold_12 rfl (lv_at hl 3 rfl) ?_
        refine va_get (D := (dC, dI)) (ci := 3) (v := .ref a2) (C := RX4) (T := TX4) (N := 7) hx hb hts iX3_unsold_X4 hown hK hP 1 rfl rfl 3 (by decide) (hts (.fieldLink RX3 25 "HookPier$Now" "stage" "[I") (List.mem_of_getElem? (i := 2) rfl)) (fun _ h9 => h9) rfl dX3_unsold_13 ?_
        refine lv_iload_n hx hb dX3_unsold_16 rfl (lv_at hl 0 rfl) ?_
        refine va_iald hx hb hK hP 2 0 rfl rfl (vp_in_iff.mpr (by omega)) dX3_unsold_17 ?_
        refine lv_topi (fun z52 ez52 => ?_)
        clear ez52
        refine lv_iconst (v := 1) hx hb dX3_unsold_18 (by decide) ?_
        refine lv_icmp_ne (tgt := 28) hx hb dX3_unsold_19 (by decide) (fun c53 => ?_) (fun c53 => ?_)
        · simp only [fa_lt, fa_le, fa_eq, ltv_0, ltv_1] at c53
          obtain ⟨z54, ez54⟩ : ∃ y : Int32, y = z48 + 1 := ⟨_, rfl⟩
          have tz54 : z54.toInt = z48.toInt + 1 := by rw [ez54, iadd_t (by simp only [ltv_1]; omega) (by simp only [ltv_1]; omega)]; simp only [ltv_1]
          refine lv_iinc (v := z54) (lv' := [(3, .int z54), (2, .int z49), (0, .ref a0), (1, .ref a1)]) hx hb dX3_unsold_28 hl (k := 0) rfl (by rw [ez54]; rfl) (by decide) rfl (fun ls hl => ?_)
          refine lv_goto (tgt := 4) hx hb dX3_unsold_31 (by decide) ?_
          exact ih4 z54 z49 H locs ls (by first | omega | (simp only [ltv_0]; omega)) (by first | omega | (simp only [ltv_0]; omega)) (by first | omega | (simp only [ltv_0]; omega)) hP hD hS (lv_sub hl [0, 1, 2, 3] rfl)
        · simp only [fa_lt, fa_le, fa_eq, ltv_0, ltv_1] at c53
          refine lv_iload_n hx hb dX3_unsold_22 rfl (lv_at hl 1 rfl) ?_
          refine lv_iconst (v := 1) hx hb dX3_unsold_23 (by decide) ?_
          refine lv_iload_n hx hb dX3_unsold_24 rfl (lv_at hl 0 rfl) ?_
          refine lv_ishl hx hb dX3_unsold_25 ?_
          refine lv_topi (fun z55 ez55 => ?_)
          have tz55 : 1 ≤ z55.toInt ∧ z55.toInt ≤ 32 := by rw [ez55]; have h9 := ishl1_t 0 5 1 32 rfl rfl (by decide) (k := z48) (by omega) (by omega); omega
          refine lv_ior hx hb dX3_unsold_26 ?_
          refine lv_topi (fun z56 ez56 => ?_)
          have tz56 : 0 ≤ z56.toInt ∧ z56.toInt ≤ 63 := by rw [ez56]; have h9 := ior_t 6 63 rfl (by decide) (x := z49) (y := z55) (by first | omega | (simp only [ltv_0]; omega)) (by first | omega | (simp only [ltv_0]; omega)); omega
          refine lv_istore_n (lv' := [(2, .int z56), (3, .int z48), (0, .ref a0), (1, .ref a1)]) hx hb dX3_unsold_27 rfl hl (by decide) rfl (fun ls hl => ?_)
          obtain ⟨z57, ez57⟩ : ∃ y : Int32, y = z48 + 1 := ⟨_, rfl⟩
          have tz57 : z57.toInt = z48.toInt + 1 := by rw [ez57, iadd_t (by simp only [ltv_1]; omega) (by simp only [ltv_1]; omega)]; simp only [ltv_1]
          refine lv_iinc (v := z57) (lv' := [(3, .int z57), (2, .int z56), (0, .ref a0), (1, .ref a1)]) hx hb dX3_unsold_28 hl (k := 1) rfl (by rw [ez57]; rfl) (by decide) rfl (fun ls hl => ?_)
          refine lv_goto (tgt := 4) hx hb dX3_unsold_31 (by decide) ?_
          exact ih4 z57 z56 H locs ls (by first | omega | (simp only [ltv_0]; omega)) (by first | omega | (simp only [ltv_0]; omega)) (by first | omega | (simp only [ltv_0]; omega)) hP hD hS (lv_sub hl [0, 1, 2, 3] rfl)
  exact L4_50 7 (0) (0) s.heap _ ls (by first | omega | (simp only [ltv_0]; omega)) (by first | omega | (simp only [ltv_0]; omega)) (by first | omega | (simp only [ltv_0]; omega)) hP hD hS (lv_sub hl [0, 1, 2, 3] rfl)
theorem dX3_worthOn_0 : decode cX3_worthOn 0 = .ok (.aload_n 0, 1) := by decide +kernel
theorem dX3_worthOn_1 : decode cX3_worthOn 1 = .ok (.iload_n 2, 1) := by decide +kernel
theorem dX3_worthOn_10 : decode cX3_worthOn 10 = .ok (.invokevirtual 15, 3) := by decide +kernel
theorem dX3_worthOn_13 : decode cX3_worthOn 13 = .ok (.ireturn, 1) := by decide +kernel
theorem dX3_worthOn_2 : decode cX3_worthOn 2 = .ok (.iload_n 3, 1) := by decide +kernel
theorem dX3_worthOn_3 : decode cX3_worthOn 3 = .ok (.aload_n 1, 1) := by decide +kernel
theorem dX3_worthOn_4 : decode cX3_worthOn 4 = .ok (.getfield 9, 3) := by decide +kernel
theorem dX3_worthOn_7 : decode cX3_worthOn 7 = .ok (.iload_n 2, 1) := by decide +kernel
theorem dX3_worthOn_8 : decode cX3_worthOn 8 = .ok (.iaload, 1) := by decide +kernel
theorem dX3_worthOn_9 : decode cX3_worthOn 9 = .ok (.isub, 1) := by decide +kernel
def vX3_worthOn : List Cond := .code yX3_worthOn cX3_worthOn 4 (some .int) :: ([.fieldLink RX3 9 "HookPier$Now" "landedOn" "[I", .methodLink RX3 15 yX6_worthAfter, .instanceMethod yX6_worthAfter, .selects RX6 yX6_worthAfter yX6_worthAfter, .initialized RX6, .code yX6_worthAfter cX6_worthAfter 3 (some .int), .fieldLink RX6 43 "HookPier$Plan" "kind" "[I", .fieldLink RX6 58 "HookPier$Plan" "told" "[I", .methodLink RX6 102 Lib.Math.max.name, .static Lib.Math.max.name, .initialized "java/lang/Math", .code Lib.Math.max.name Lib.Math.max.code 2 (some .int), .methodLink RX6 98 Lib.Math.min.name, .static Lib.Math.min.name, .code Lib.Math.min.name Lib.Math.min.code 2 (some .int)] ++ wsX40 ++ wsX60)
theorem iX3_worthOn_X4 : ∀ w ∈ wsX40, w ∈ vX3_worthOn := fun _ h => List.mem_cons_of_mem _ (List.mem_append_left _ (List.mem_append_right _ h))
theorem iX3_worthOn_X6 : ∀ w ∈ wsX60, w ∈ vX3_worthOn := fun _ h => List.mem_cons_of_mem _ (List.mem_append_right _ h)
set_option maxRecDepth 20000 in
theorem gX3_worthOn_0 : GoodIn vX3_worthOn (wsV RX3 15 RX6 yX6_worthAfter vX6_worthAfter) := goodIn_app (goodIn_r [.methodLink RX3 15 yX6_worthAfter, .instanceMethod yX6_worthAfter, .selects RX6 yX6_worthAfter yX6_worthAfter, .initialized RX6] [2, 3, 4, 5] (by decide +kernel) (by decide +kernel)) (goodIn_ca (goodIn_r (.code yX6_worthAfter cX6_worthAfter 3 (some .int) :: [.fieldLink RX6 43 "HookPier$Plan" "kind" "[I", .fieldLink RX6 58 "HookPier$Plan" "told" "[I", .methodLink RX6 102 Lib.Math.max.name, .static Lib.Math.max.name, .initialized "java/lang/Math", .code Lib.Math.max.name Lib.Math.max.code 2 (some .int), .methodLink RX6 98 Lib.Math.min.name, .static Lib.Math.min.name, .code Lib.Math.min.name Lib.Math.min.code 2 (some .int)]) [6, 7, 8, 9, 10, 11, 12, 13, 14, 15] (by decide +kernel) (by decide +kernel) : GoodIn vX3_worthOn (.code yX6_worthAfter cX6_worthAfter 3 (some .int) :: [.fieldLink RX6 43 "HookPier$Plan" "kind" "[I", .fieldLink RX6 58 "HookPier$Plan" "told" "[I", .methodLink RX6 102 Lib.Math.max.name, .static Lib.Math.max.name, .initialized "java/lang/Math", .code Lib.Math.max.name Lib.Math.max.code 2 (some .int), .methodLink RX6 98 Lib.Math.min.name, .static Lib.Math.min.name, .code Lib.Math.min.name Lib.Math.min.code 2 (some .int)])) (goodIn_sub iX3_worthOn_X6 (by decide +kernel)))
set_option maxHeartbeats 2000000 in
set_option maxRecDepth 100000 in
theorem kX3_worthOn (l : Launch) (dC : Nat → ClassId) (dI : Nat → Nat → Nat) (a0 : Nat) (a1 : Nat) (k2 : Int32) (k3 : Int32) (a4 : Nat) (a5 : Nat) (a6 : Nat) (g7 : Value) (g8 : Value) (g9 : Value) (g10 : Value) (g11 : Value) (g12 : Value) (g13 : Value) (g14 : Value) (g15 : Value) (g16 : Value) (g17 : Value) (g18 : Value) (g19 : Value) (g20 : Value) (g21 : Value) (g22 : Value) (g23 : Value) (g24 : Value) (g25 : Value) (g26 : Value) (g27 : Value) (g28 : Value) (cB29 : ClassId) (f30 : Nat → Int32) (cB31 : ClassId) (f32 : Nat → Int32) (cB33 : ClassId) (f34 : Nat → Int32) (hk2 : (0 ≤ k2.toInt ∧ k2.toInt ≤ 5)) (sz : Nat) : Met l yX3_worthOn vX3_worthOn ({ frames := 2, cells := 0, slots := 0, locals := 43 }) (PC (dC, dI) [.ref a0, .ref a1, .int k2, .int k3] sz [(a0, .inr (4, [g7, g8, g9, g10, g11, g12, g13, g14, g15, g16, .ref a4, g17, g18, g19, g20, .ref a5, g21, g22])), (a1, .inr (3, [g23, g24, g25, g26, .ref a6, g27, g28])), (a4, .inl (cB29, 6, .inl f30)), (a5, .inl (cB31, 6, .inl f32)), (a6, .inl (cB33, 6, .inl f34))] [(cB29, .int), (cB31, .int), (cB33, .int)]) (va_Qi (S := Unit) (fun (r : Int32) _ => True) (fun _ t => BC (dC, dI) (va_A [(a0, .inr (4, [g7, g8, g9, g10, g11, g12, g13, g14, g15, g16, .ref a4, g17, g18, g19, g20, .ref a5, g21, g22])), (a1, .inr (3, [g23, g24, g25, g26, .ref a6, g27, g28])), (a4, .inl (cB29, 6, .inl f30)), (a5, .inl (cB31, 6, .inl f32)), (a6, .inl (cB33, 6, .inl f34))] sz) [(a0, .inr (4, [g7, g8, g9, g10, g11, g12, g13, g14, g15, g16, .ref a4, g17, g18, g19, g20, .ref a5, g21, g22])), (a1, .inr (3, [g23, g24, g25, g26, .ref a6, g27, g28])), (a4, .inl (cB29, 6, .inl f30)), (a5, .inl (cB31, 6, .inl f32)), (a6, .inl (cB33, 6, .inl f34))] [] t) (va_A [(a0, .inr (4, [g7, g8, g9, g10, g11, g12, g13, g14, g15, g16, .ref a4, g17, g18, g19, g20, .ref a5, g21, g22])), (a1, .inr (3, [g23, g24, g25, g26, .ref a6, g27, g28])), (a4, .inl (cB29, 6, .inl f30)), (a5, .inl (cB31, 6, .inl f32)), (a6, .inl (cB33, 6, .inl f34))] sz)) 0 0 (va_A [(a0, .inr (4, [g7, g8, g9, g10, g11, g12, g13, g14, g15, g16, .ref a4, g17, g18, g19, g20, .ref a5, g21, g22])), (a1, .inr (3, [g23, g24, g25, g26, .ref a6, g27, g28])), (a4, .inl (cB29, 6, .inl f30)), (a5, .inl (cB31, 6, .inl f32)), (a6, .inl (cB33, 6, .inl f34))] sz) := by
  refine Met.ofW (cc := cX3_worthOn) (maxL := 4) (ret := (some .int)) (by decide) rfl ?_
  intro p e s m args below meth c s₁ B hml hv
  obtain ⟨rfl, hsz, hP, hK, hD0, hN⟩ := hv
  have hx := B.exec
  have hb := B.bytes
  have hr := B.returns
  have hts := atoms_spec (ws := vX3_worthOn) B.pre
  have hown : s.vm.findClass RX3 = some m.cls := findClass_of_methodNamed B.named
  have hlocks := B.notSynchronized
  subst hsz
  have hD := hD0.self (sz := s.heap.size)
  generalize hAe : va_A [(a0, .inr (4, [g7, g8, g9, g10, g11, g12, g13, g14, g15, g16, .ref a4, g17, g18, g19, g20, .ref a5, g21, g22])), (a1, .inr (3, [g23, g24, g25, g26, .ref a6, g27, g28])), (a4, .inl (cB29, 6, .inl f30)), (a5, .inl (cB31, 6, .inl f32)), (a6, .inl (cB33, 6, .inl f34))] s.heap.size = A at hD ⊢
  have hA : ∀ q : Nat, s.heap.size ≤ q → A q := fun q h => by rw [← hAe]; exact Or.inr h
  have hS : va_S A s.heap s.heap [] := va_S.rf
  have hP : va_P (dC, dI) vwCl [(a0, .inr (4, [g7, g8, g9, g10, g11, g12, g13, g14, g15, g16, .ref a4, g17, g18, g19, g20, .ref a5, g21, g22])), (a1, .inr (3, [g23, g24, g25, g26, .ref a6, g27, g28])), (a4, .inl (cB29, 6, .inl f30)), (a5, .inl (cB31, 6, .inl f32)), (a6, .inl (cB33, 6, .inl f34))] s.heap := hP
  have hl := lv_entry ([.ref a0, .ref a1, .int k2, .int k3]) (n := 4) (Nat.le_of_ble_eq_true rfl)
  rw [lg_entry_eq]
  generalize (lg_sl ([.ref a0, .ref a1, .int k2, .int k3]) ++ List.replicate (4 - (lg_sl ([.ref a0, .ref a1, .int k2, .int k3])).length) Slot.unset).toArray = ls at hl ⊢
  have hl : lv_has ls 4 [(0, .ref a0), (1, .ref a1), (2, .int k2), (3, .int k3)] := hl
  refine lv_aload_n hx hb dX3_worthOn_0 rfl (lv_at hl 0 rfl) ?_
  refine lv_iload_n hx hb dX3_worthOn_1 rfl (lv_at hl 2 rfl) ?_
  refine lv_iload_n hx hb dX3_worthOn_2 rfl (lv_at hl 3 rfl) ?_
  refine lv_aload_n hx hb dX3_worthOn_3 rfl (lv_at hl 1 rfl) ?_
  refine va_get (D := (dC, dI)) (ci := 3) (v := .ref a6) (C := RX4) (T := TX4) (N := 7) hx hb hts iX3_worthOn_X4 hown hK hP 1 rfl rfl 4 (by decide) (hts (.fieldLink RX3 9 "HookPier$Now" "landedOn" "[I") (List.mem_of_getElem? (i := 1) rfl)) (fun _ h9 => h9) rfl dX3_worthOn_4 ?_
  refine lv_iload_n hx hb dX3_worthOn_7 rfl (lv_at hl 2 rfl) ?_
  refine va_iald hx hb hK hP 4 2 rfl rfl (vp_in_iff.mpr (by omega)) dX3_worthOn_8 ?_
  refine lv_topi (fun z1 ez1 => ?_)
  clear ez1
  refine lv_isub hx hb dX3_worthOn_9 ?_
  refine lv_topi (fun z2 ez2 => ?_)
  clear ez2
  refine cl_i (wc := [(a0, .inr (4, [g7, g8, g9, g10, g11, g12, g13, g14, g15, g16, .ref a4, g17, g18, g19, g20, .ref a5, g21, g22])), (a4, .inl (cB29, 6, .inl f30)), (a5, .inl (cB31, 6, .inl f32))]) (wr := [(a1, .inr (3, [g23, g24, g25, g26, .ref a6, g27, g28])), (a6, .inl (cB33, 6, .inl f34))]) (va_runV (As := [.int k2, .int z2]) (rest := []) ⟨hx, hb, hml, hown, hts⟩ (kX6_worthAfter l dC dI a0 k2 z2 a4 a5 (g7) (g8) (g9) (g10) (g11) (g12) (g13) (g14) (g15) (g16) (g17) (g18) (g19) (g20) (g21) (g22) cB29 f30 cB31 f32 (by first | omega | (simp only [ltv_0]; omega)) s.heap.size) (cwV 2 hts gX3_worthOn_0 rfl rfl rfl (by decide +kernel) ⟨Nat.le_of_ble_eq_true rfl, Nat.le_of_ble_eq_true rfl⟩) (PV (hP.sub (ws' := [(a0, .inr (4, [g7, g8, g9, g10, g11, g12, g13, g14, g15, g16, .ref a4, g17, g18, g19, g20, .ref a5, g21, g22])), (a4, .inl (cB29, 6, .inl f30)), (a5, .inl (cB31, 6, .inl f32))]) [0, 2, 3] rfl) (hK.sub (tys' := [(cB29, .int), (cB31, .int)]) [0, 1] rfl) (hD.sub (ws' := [(a0, .inr (4, [g7, g8, g9, g10, g11, g12, g13, g14, g15, g16, .ref a4, g17, g18, g19, g20, .ref a5, g21, g22])), (a4, .inl (cB29, 6, .inl f30)), (a5, .inl (cB31, 6, .inl f32))]) [0, 2, 3] (by decide) rfl) hN 0 rfl rfl) rfl rfl hl.1 rfl (lv_room (Nat.le_of_ble_eq_true rfl)) dX3_worthOn_10 ⟨Nat.le_of_ble_eq_true rfl, Nat.le_of_ble_eq_true rfl⟩) hP hD hK hS hA [0, 2, 3] [1, 4] rfl rfl (by decide) (by decide) (fun z3 _u H locs hw hP hD hK hS => ?_)
  have b4 := hw
  have hP : va_P (dC, dI) vwCl [(a1, .inr (3, [g23, g24, g25, g26, .ref a6, g27, g28])), (a6, .inl (cB33, 6, .inl f34)), (a0, .inr (4, [g7, g8, g9, g10, g11, g12, g13, g14, g15, g16, .ref a4, g17, g18, g19, g20, .ref a5, g21, g22])), (a4, .inl (cB29, 6, .inl f30)), (a5, .inl (cB31, 6, .inl f32))] H := hP
  have hD : va_D A [(a1, .inr (3, [g23, g24, g25, g26, .ref a6, g27, g28])), (a6, .inl (cB33, 6, .inl f34)), (a0, .inr (4, [g7, g8, g9, g10, g11, g12, g13, g14, g15, g16, .ref a4, g17, g18, g19, g20, .ref a5, g21, g22])), (a4, .inl (cB29, 6, .inl f30)), (a5, .inl (cB31, 6, .inl f32))] := hD
  have hK : va_K (dC, dI) vwCl [(cB29, .int), (cB31, .int), (cB33, .int)] s := hK
  have hP9 := hP.sub (ws' := [(a0, .inr (4, [g7, g8, g9, g10, g11, g12, g13, g14, g15, g16, .ref a4, g17, g18, g19, g20, .ref a5, g21, g22])), (a1, .inr (3, [g23, g24, g25, g26, .ref a6, g27, g28])), (a4, .inl (cB29, 6, .inl f30)), (a5, .inl (cB31, 6, .inl f32)), (a6, .inl (cB33, 6, .inl f34))]) [2, 0, 3, 4, 1] rfl
  have hD9 := hD.sub (ws' := [(a0, .inr (4, [g7, g8, g9, g10, g11, g12, g13, g14, g15, g16, .ref a4, g17, g18, g19, g20, .ref a5, g21, g22])), (a1, .inr (3, [g23, g24, g25, g26, .ref a6, g27, g28])), (a4, .inl (cB29, 6, .inl f30)), (a5, .inl (cB31, 6, .inl f32)), (a6, .inl (cB33, 6, .inl f34))]) [2, 0, 3, 4, 1] (by decide) rfl
  have hK9 := hK.sub (tys' := []) [] rfl
  exact W.iret (v := z3) hx hb hr (fun t ht hW => ⟨⟨z3, (), rfl, trivial, by rw [ht]; exact hP9, va_K.moved hW.alike hK9, hD9⟩, hS.F ht⟩) hS.2.2 dX3_worthOn_13
theorem dX3_worthTogether_0 : decode cX3_worthTogether 0 = .ok (.iconst 0, 1) := by decide +kernel
theorem dX3_worthTogether_1 : decode cX3_worthTogether 1 = .ok (.istore 4, 2) := by decide +kernel
theorem dX3_worthTogether_12 : decode cX3_worthTogether 12 = .ok (.if_icmp .ge 32, 3) := by decide +kernel
theorem dX3_worthTogether_15 : decode cX3_worthTogether 15 = .ok (.iload_n 2, 1) := by decide +kernel
theorem dX3_worthTogether_16 : decode cX3_worthTogether 16 = .ok (.iload 5, 2) := by decide +kernel
theorem dX3_worthTogether_18 : decode cX3_worthTogether 18 = .ok (.ishr, 1) := by decide +kernel
theorem dX3_worthTogether_19 : decode cX3_worthTogether 19 = .ok (.iconst 1, 1) := by decide +kernel
theorem dX3_worthTogether_20 : decode cX3_worthTogether 20 = .ok (.iand, 1) := by decide +kernel
theorem dX3_worthTogether_21 : decode cX3_worthTogether 21 = .ok (.iconst 1, 1) := by decide +kernel
theorem dX3_worthTogether_22 : decode cX3_worthTogether 22 = .ok (.if_icmp .ne 16, 3) := by decide +kernel
theorem dX3_worthTogether_25 : decode cX3_worthTogether 25 = .ok (.iload 4, 2) := by decide +kernel
theorem dX3_worthTogether_27 : decode cX3_worthTogether 27 = .ok (.aload_n 0, 1) := by decide +kernel
theorem dX3_worthTogether_28 : decode cX3_worthTogether 28 = .ok (.aload_n 1, 1) := by decide +kernel
theorem dX3_worthTogether_29 : decode cX3_worthTogether 29 = .ok (.iload 5, 2) := by decide +kernel
theorem dX3_worthTogether_3 : decode cX3_worthTogether 3 = .ok (.iconst 0, 1) := by decide +kernel
theorem dX3_worthTogether_31 : decode cX3_worthTogether 31 = .ok (.iload_n 3, 1) := by decide +kernel
theorem dX3_worthTogether_32 : decode cX3_worthTogether 32 = .ok (.invokestatic 28, 3) := by decide +kernel
theorem dX3_worthTogether_35 : decode cX3_worthTogether 35 = .ok (.iadd, 1) := by decide +kernel
theorem dX3_worthTogether_36 : decode cX3_worthTogether 36 = .ok (.istore 4, 2) := by decide +kernel
theorem dX3_worthTogether_38 : decode cX3_worthTogether 38 = .ok (.iinc 5 1, 3) := by decide +kernel
theorem dX3_worthTogether_4 : decode cX3_worthTogether 4 = .ok (.istore 5, 2) := by decide +kernel
theorem dX3_worthTogether_41 : decode cX3_worthTogether 41 = .ok (.goto (-35), 3) := by decide +kernel
theorem dX3_worthTogether_44 : decode cX3_worthTogether 44 = .ok (.iload 4, 2) := by decide +kernel
theorem dX3_worthTogether_46 : decode cX3_worthTogether 46 = .ok (.ireturn, 1) := by decide +kernel
theorem dX3_worthTogether_6 : decode cX3_worthTogether 6 = .ok (.iload 5, 2) := by decide +kernel
theorem dX3_worthTogether_8 : decode cX3_worthTogether 8 = .ok (.aload_n 0, 1) := by decide +kernel
theorem dX3_worthTogether_9 : decode cX3_worthTogether 9 = .ok (.getfield 21, 3) := by decide +kernel
def vX3_worthTogether : List Cond := .code yX3_worthTogether cX3_worthTogether 6 (some .int) :: ([.fieldLink RX3 21 "HookPier$Plan" "answers" "I", .methodLink RX3 28 yX3_worthOn, .static yX3_worthOn, .initialized RX3, .code yX3_worthOn cX3_worthOn 4 (some .int), .fieldLink RX3 9 "HookPier$Now" "landedOn" "[I", .methodLink RX3 15 yX6_worthAfter, .instanceMethod yX6_worthAfter, .selects RX6 yX6_worthAfter yX6_worthAfter, .initialized RX6, .code yX6_worthAfter cX6_worthAfter 3 (some .int), .fieldLink RX6 43 "HookPier$Plan" "kind" "[I", .fieldLink RX6 58 "HookPier$Plan" "told" "[I", .methodLink RX6 102 Lib.Math.max.name, .static Lib.Math.max.name, .initialized "java/lang/Math", .code Lib.Math.max.name Lib.Math.max.code 2 (some .int), .methodLink RX6 98 Lib.Math.min.name, .static Lib.Math.min.name, .code Lib.Math.min.name Lib.Math.min.code 2 (some .int)] ++ wsX60 ++ wsX40)
theorem iX3_worthTogether_X6 : ∀ w ∈ wsX60, w ∈ vX3_worthTogether := fun _ h => List.mem_cons_of_mem _ (List.mem_append_left _ (List.mem_append_right _ h))
theorem iX3_worthTogether_X4 : ∀ w ∈ wsX40, w ∈ vX3_worthTogether := fun _ h => List.mem_cons_of_mem _ (List.mem_append_right _ h)
set_option maxRecDepth 20000 in
theorem gX3_worthTogether_0 : GoodIn vX3_worthTogether (va_wsS RX3 28 yX3_worthOn vX3_worthOn) := goodIn_app (goodIn_r [.methodLink RX3 28 yX3_worthOn, .static yX3_worthOn, .initialized RX3] [2, 3, 4] (by decide +kernel) (by decide +kernel)) (goodIn_ca (goodIn_ca (goodIn_r (.code yX3_worthOn cX3_worthOn 4 (some .int) :: [.fieldLink RX3 9 "HookPier$Now" "landedOn" "[I", .methodLink RX3 15 yX6_worthAfter, .instanceMethod yX6_worthAfter, .selects RX6 yX6_worthAfter yX6_worthAfter, .initialized RX6, .code yX6_worthAfter cX6_worthAfter 3 (some .int), .fieldLink RX6 43 "HookPier$Plan" "kind" "[I", .fieldLink RX6 58 "HookPier$Plan" "told" "[I", .methodLink RX6 102 Lib.Math.max.name, .static Lib.Math.max.name, .initialized "java/lang/Math", .code Lib.Math.max.name Lib.Math.max.code 2 (some .int), .methodLink RX6 98 Lib.Math.min.name, .static Lib.Math.min.name, .code Lib.Math.min.name Lib.Math.min.code 2 (some .int)]) [5, 6, 7, 8, 9, 10, 11, 12, 13, 14, 15, 16, 17, 18, 19, 20] (by decide +kernel) (by decide +kernel) : GoodIn vX3_worthTogether (.code yX3_worthOn cX3_worthOn 4 (some .int) :: [.fieldLink RX3 9 "HookPier$Now" "landedOn" "[I", .methodLink RX3 15 yX6_worthAfter, .instanceMethod yX6_worthAfter, .selects RX6 yX6_worthAfter yX6_worthAfter, .initialized RX6, .code yX6_worthAfter cX6_worthAfter 3 (some .int), .fieldLink RX6 43 "HookPier$Plan" "kind" "[I", .fieldLink RX6 58 "HookPier$Plan" "told" "[I", .methodLink RX6 102 Lib.Math.max.name, .static Lib.Math.max.name, .initialized "java/lang/Math", .code Lib.Math.max.name Lib.Math.max.code 2 (some .int), .methodLink RX6 98 Lib.Math.min.name, .static Lib.Math.min.name, .code Lib.Math.min.name Lib.Math.min.code 2 (some .int)])) (goodIn_sub iX3_worthTogether_X4 (by decide +kernel))) (goodIn_sub iX3_worthTogether_X6 (by decide +kernel)))
set_option maxHeartbeats 2000000 in
set_option maxRecDepth 100000 in
theorem kX3_worthTogether (l : Launch) (dC : Nat → ClassId) (dI : Nat → Nat → Nat) (a0 : Nat) (a1 : Nat) (k2 : Int32) (k3 : Int32) (a4 : Nat) (a5 : Nat) (a6 : Nat) (g7 : Value) (g8 : Value) (g9 : Value) (g10 : Value) (g11 : Value) (g12 : Value) (k13 : Int32) (g14 : Value) (g15 : Value) (g16 : Value) (g17 : Value) (g18 : Value) (g19 : Value) (g20 : Value) (g21 : Value) (g22 : Value) (g23 : Value) (g24 : Value) (g25 : Value) (g26 : Value) (g27 : Value) (g28 : Value) (cB29 : ClassId) (f30 : Nat → Int32) (cB31 : ClassId) (f32 : Nat → Int32) (cB33 : ClassId) (f34 : Nat → Int32) (hk13 : (0 ≤ k13.toInt ∧ k13.toInt ≤ 6)) (sz : Nat) : Met l yX3_worthTogether vX3_worthTogether ({ frames := 3, cells := 0, slots := 0, locals := 66 }) (PC (dC, dI) [.ref a0, .ref a1, .int k2, .int k3] sz [(a0, .inr (4, [g7, g8, g9, g10, g11, g12, .int k13, g14, g15, g16, .ref a4, g17, g18, g19, g20, .ref a5, g21, g22])), (a1, .inr (3, [g23, g24, g25, g26, .ref a6, g27, g28])), (a4, .inl (cB29, 6, .inl f30)), (a5, .inl (cB31, 6, .inl f32)), (a6, .inl (cB33, 6, .inl f34))] [(cB29, .int), (cB31, .int), (cB33, .int)]) (va_Qi (S := Unit) (fun (r : Int32) _ => True) (fun _ t => BC (dC, dI) (va_A [(a0, .inr (4, [g7, g8, g9, g10, g11, g12, .int k13, g14, g15, g16, .ref a4, g17, g18, g19, g20, .ref a5, g21, g22])), (a1, .inr (3, [g23, g24, g25, g26, .ref a6, g27, g28])), (a4, .inl (cB29, 6, .inl f30)), (a5, .inl (cB31, 6, .inl f32)), (a6, .inl (cB33, 6, .inl f34))] sz) [(a0, .inr (4, [g7, g8, g9, g10, g11, g12, .int k13, g14, g15, g16, .ref a4, g17, g18, g19, g20, .ref a5, g21, g22])), (a1, .inr (3, [g23, g24, g25, g26, .ref a6, g27, g28])), (a4, .inl (cB29, 6, .inl f30)), (a5, .inl (cB31, 6, .inl f32)), (a6, .inl (cB33, 6, .inl f34))] [] t) (va_A [(a0, .inr (4, [g7, g8, g9, g10, g11, g12, .int k13, g14, g15, g16, .ref a4, g17, g18, g19, g20, .ref a5, g21, g22])), (a1, .inr (3, [g23, g24, g25, g26, .ref a6, g27, g28])), (a4, .inl (cB29, 6, .inl f30)), (a5, .inl (cB31, 6, .inl f32)), (a6, .inl (cB33, 6, .inl f34))] sz)) 0 0 (va_A [(a0, .inr (4, [g7, g8, g9, g10, g11, g12, .int k13, g14, g15, g16, .ref a4, g17, g18, g19, g20, .ref a5, g21, g22])), (a1, .inr (3, [g23, g24, g25, g26, .ref a6, g27, g28])), (a4, .inl (cB29, 6, .inl f30)), (a5, .inl (cB31, 6, .inl f32)), (a6, .inl (cB33, 6, .inl f34))] sz) := by
  refine Met.ofW (cc := cX3_worthTogether) (maxL := 6) (ret := (some .int)) (by decide) rfl ?_
  intro p e s m args below meth c s₁ B hml hv
  obtain ⟨rfl, hsz, hP, hK, hD0, hN⟩ := hv
  have hx := B.exec
  have hb := B.bytes
  have hr := B.returns
  have hts := atoms_spec (ws := vX3_worthTogether) B.pre
  have hown : s.vm.findClass RX3 = some m.cls := findClass_of_methodNamed B.named
  have hlocks := B.notSynchronized
  subst hsz
  have hD := hD0.self (sz := s.heap.size)
  generalize hAe : va_A [(a0, .inr (4, [g7, g8, g9, g10, g11, g12, .int k13, g14, g15, g16, .ref a4, g17, g18, g19, g20, .ref a5, g21, g22])), (a1, .inr (3, [g23, g24, g25, g26, .ref a6, g27, g28])), (a4, .inl (cB29, 6, .inl f30)), (a5, .inl (cB31, 6, .inl f32)), (a6, .inl (cB33, 6, .inl f34))] s.heap.size = A at hD ⊢
  have hA : ∀ q : Nat, s.heap.size ≤ q → A q := fun q h => by rw [← hAe]; exact Or.inr h
  have hS : va_S A s.heap s.heap [] := va_S.rf
  have hP : va_P (dC, dI) vwCl [(a0, .inr (4, [g7, g8, g9, g10, g11, g12, .int k13, g14, g15, g16, .ref a4, g17, g18, g19, g20, .ref a5, g21, g22])), (a1, .inr (3, [g23, g24, g25, g26, .ref a6, g27, g28])), (a4, .inl (cB29, 6, .inl f30)), (a5, .inl (cB31, 6, .inl f32)), (a6, .inl (cB33, 6, .inl f34))] s.heap := hP
  have hl := lv_entry ([.ref a0, .ref a1, .int k2, .int k3]) (n := 6) (Nat.le_of_ble_eq_true rfl)
  rw [lg_entry_eq]
  generalize (lg_sl ([.ref a0, .ref a1, .int k2, .int k3]) ++ List.replicate (6 - (lg_sl ([.ref a0, .ref a1, .int k2, .int k3])).length) Slot.unset).toArray = ls at hl ⊢
  have hl : lv_has ls 6 [(0, .ref a0), (1, .ref a1), (2, .int k2), (3, .int k3)] := hl
  refine lv_iconst (v := 0) hx hb dX3_worthTogether_0 (by decide) ?_
  refine lv_istore (lv' := [(4, .int 0), (0, .ref a0), (1, .ref a1), (2, .int k2), (3, .int k3)]) hx hb dX3_worthTogether_1 hl (by decide) rfl (fun ls hl => ?_)
  refine lv_iconst (v := 0) hx hb dX3_worthTogether_3 (by decide) ?_
  refine lv_istore (lv' := [(5, .int 0), (4, .int 0), (0, .ref a0), (1, .ref a1), (2, .int k2), (3, .int k3)]) hx hb dX3_worthTogether_4 hl (by decide) rfl (fun ls hl => ?_)
  have L6_57 : ∀ (n : Nat) (z55 : Int32) (z56 : Int32) (H : Heap) (locs : List Loc) (ls : Array Slot), (0 ≤ z55.toInt ∧ z55.toInt ≤ 6) → 6 - z55.toInt < (n : Int) → va_P (dC, dI) vwCl [(a0, .inr (4, [g7, g8, g9, g10, g11, g12, .int k13, g14, g15, g16, .ref a4, g17, g18, g19, g20, .ref a5, g21, g22])), (a1, .inr (3, [g23, g24, g25, g26, .ref a6, g27, g28])), (a4, .inl (cB29, 6, .inl f30)), (a5, .inl (cB31, 6, .inl f32)), (a6, .inl (cB33, 6, .inl f34))] H → va_D A [(a0, .inr (4, [g7, g8, g9, g10, g11, g12, .int k13, g14, g15, g16, .ref a4, g17, g18, g19, g20, .ref a5, g21, g22])), (a1, .inr (3, [g23, g24, g25, g26, .ref a6, g27, g28])), (a4, .inl (cB29, 6, .inl f30)), (a5, .inl (cB31, 6, .inl f32)), (a6, .inl (cB33, 6, .inl f34))] → va_S A s.heap H locs → lv_has ls 6 [(5, .int z55), (4, .int z56), (0, .ref a0), (1, .ref a1), (2, .int k2), (3, .int k3)] → W p l e (headSpec vX3_worthTogether { frames := 3, cells := 0, slots := 0, locals := 66 }).room s m ([.ref a0, .ref a1, .int k2, .int k3]).toArray below meth c H locs 0 0 (MQ below (va_Qi (S := Unit) (fun (r : Int32) _ => True) (fun _ t => BC (dC, dI) A [(a0, .inr (4, [g7, g8, g9, g10, g11, g12, .int k13, g14, g15, g16, .ref a4, g17, g18, g19, g20, .ref a5, g21, g22])), (a1, .inr (3, [g23, g24, g25, g26, .ref a6, g27, g28])), (a4, .inl (cB29, 6, .inl f30)), (a5, .inl (cB31, 6, .inl f32)), (a6, .inl (cB33, 6, .inl f34))] [] t) A) ([.ref a0, .ref a1, .int k2, .int k3]).toArray s 0 0 A) (F0 m 6 ls []) := by
    intro n
    induction n with
    | zero =>
      intro z55 z56 H locs ls b6_0 hm _ _ _ _
      exact absurd hm (by omega)
    | succ n ih6 =>
      intro z55 z56 H locs ls b6_0 hm6 hP hD hS hl
      refine lv_iload hx hb dX3_worthTogether_6 (lv_at hl 0 rfl) ?_
      refine lv_aload_n hx hb dX3_worthTogether_8 rfl (lv_at hl 2 rfl) ?_
      refine va_get (D := (dC, dI)) (ci := 4) (v := .int k13) (C := RX6) (T := TX6) (N := 18) hx hb hts iX3_worthTogether_X6 hown hK hP 0 rfl rfl 6 (by decide) (hts (.fieldLink RX3 21 "HookPier$Plan" "answers" "I") (List.mem_of_getElem? (i := 1) rfl)) (fun _ h9 => h9) rfl dX3_worthTogether_9 ?_
      refine lv_icmp_ge (tgt := 44) hx hb dX3_worthTogether_12 (by decide) (fun c58 => ?_) (fun c58 => ?_)
      · simp only [fa_lt, fa_le, fa_eq, ltv_0] at c58
        refine lv_iload hx hb dX3_worthTogether_44 (lv_at hl 1 rfl) ?_
        have hP9 := hP.sub (ws' := [(a0, .inr (4, [g7, g8, g9, g10, g11, g12, .int k13, g14, g15, g16, .ref a4, g17, g18, g19, g20, .ref a5, g21, g22])), (a1, .inr (3, [g23, g24, g25, g26, .ref a6, g27, g28])), (a4, .inl (cB29, 6, .inl f30)), (a5, .inl (cB31, 6, .inl f32)), (a6, .inl (cB33, 6, .inl f34))]) [0, 1, 2, 3, 4] rfl
        have hD9 := hD.sub (ws' := [(a0, .inr (4, [g7, g8, g9, g10, g11, g12, .int k13, g14, g15, g16, .ref a4, g17, g18, g19, g20, .ref a5, g21, g22])), (a1, .inr (3, [g23, g24, g25, g26, .ref a6, g27, g28])), (a4, .inl (cB29, 6, .inl f30)), (a5, .inl (cB31, 6, .inl f32)), (a6, .inl (cB33, 6, .inl f34))]) [0, 1, 2, 3, 4] (by decide) rfl
        have hK9 := hK.sub (tys' := []) [] rfl
        exact W.iret (v := z56) hx hb hr (fun t ht hW => ⟨⟨z56, (), rfl, trivial, by rw [ht]; exact hP9, va_K.moved hW.alike hK9, hD9⟩, hS.F ht⟩) hS.2.2 dX3_worthTogether_46
      · simp only [fa_lt, fa_le, fa_eq, ltv_0] at c58
        refine lv_iload_n hx hb dX3_worthTogether_15 rfl (lv_at hl 4 rfl) ?_
        refine lv_iload hx hb dX3_worthTogether_16 (lv_at hl 0 rfl) ?_
        refine lv_ishr hx hb dX3_worthTogether_18 ?_
        refine lv_topi (fun z59 ez59 => ?_)
        clear ez59
        refine lv_iconst (v := 1) hx hb dX3_worthTogether_19 (by decide) ?_
        refine lv_iand hx hb dX3_worthTogether_20 ?_
        refine lv_topi (fun z60 ez60 => ?_)
        clear ez60
        refine lv_iconst (v := 1) hx hb dX3_worthTogether_21 (by decide) ?_
        refine lv_icmp_ne (tgt := 38) hx hb dX3_worthTogether_22 (by decide) (fun c61 => ?_) (fun c61 => ?_)
        · simp only [fa_lt, fa_le, fa_eq, ltv_0, ltv_1] at c61
          obtain ⟨z62, ez62⟩ : ∃ y : Int32, y = z55 + 1 := ⟨_, rfl⟩
          have tz62 : z62.toInt = z55.toInt + 1 := by rw [ez62, iadd_t (by simp only [ltv_1]; omega) (by simp only [ltv_1]; omega)]; simp only [ltv_1]
          refine lv_iinc (v := z62) (lv' := [(5, .int z62), (4, .int z56), (0, .ref a0), (1, .ref a1), (2, .int k2), (3, .int k3)]) hx hb dX3_worthTogether_38 hl (k := 0) rfl (by rw [ez62]; rfl) (by decide) rfl (fun ls hl => ?_)
          refine lv_goto (tgt := 6) hx hb dX3_worthTogether_41 (by decide) ?_
          exact ih6 z62 z56 H locs ls (by first | omega | (simp only [ltv_0]; omega)) (by first | omega | (simp only [ltv_0]; omega)) hP hD hS (lv_sub hl [0, 1, 2, 3, 4, 5] rfl)
        · simp only [fa_lt, fa_le, fa_eq, ltv_0, ltv_1] at c61
          refine lv_iload hx hb dX3_worthTogether_25 (lv_at hl 1 rfl) ?_
          refine lv_aload_n hx hb dX3_worthTogether_27 rfl (lv_at hl 2 rfl) ?_
          refine lv_aload_n hx hb dX3_worthTogether_28 rfl (lv_at hl 3 rfl) ?_
          refine lv_iload hx hb dX3_worthTogether_29 (lv_at hl 0 rfl) ?_
          refine lv_iload_n hx hb dX3_worthTogether_31 rfl (lv_at hl 5 rfl) ?_
          refine cl_i (wc := [(a0, .inr (4, [g7, g8, g9, g10, g11, g12, .int k13, g14, g15, g16, .ref a4, g17, g18, g19, g20, .ref a5, g21, g22])), (a1, .inr (3, [g23, g24, g25, g26, .ref a6, g27, g28])), (a4, .inl (cB29, 6, .inl f30)), (a5, .inl (cB31, 6, .inl f32)), (a6, .inl (cB33, 6, .inl f34))]) (wr := []) (va_runS (As := [.ref a0, .ref a1, .int z55, .int k3]) (rest := [.int z56]) ⟨hx, hb, hml, hown, hts⟩ (kX3_worthOn l dC dI a0 a1 z55 k3 a4 a5 a6 (g7) (g8) (g9) (g10) (g11) (g12) (.int k13) (g14) (g15) (g16) (g17) (g18) (g19) (g20) (g21) (g22) (g23) (g24) (g25) (g26) (g27) (g28) cB29 f30 cB31 f32 cB33 f34 (by first | omega | (simp only [ltv_0]; omega)) H.size) (va_cwS 4 hts gX3_worthTogether_0 rfl rfl rfl (by decide +kernel) ⟨Nat.le_of_ble_eq_true rfl, Nat.le_of_ble_eq_true rfl⟩) (PS (hP.sub (ws' := [(a0, .inr (4, [g7, g8, g9, g10, g11, g12, .int k13, g14, g15, g16, .ref a4, g17, g18, g19, g20, .ref a5, g21, g22])), (a1, .inr (3, [g23, g24, g25, g26, .ref a6, g27, g28])), (a4, .inl (cB29, 6, .inl f30)), (a5, .inl (cB31, 6, .inl f32)), (a6, .inl (cB33, 6, .inl f34))]) [0, 1, 2, 3, 4] rfl) (hK.sub (tys' := [(cB29, .int), (cB31, .int), (cB33, .int)]) [0, 1, 2] rfl) (hD.sub (ws' := [(a0, .inr (4, [g7, g8, g9, g10, g11, g12, .int k13, g14, g15, g16, .ref a4, g17, g18, g19, g20, .ref a5, g21, g22])), (a1, .inr (3, [g23, g24, g25, g26, .ref a6, g27, g28])), (a4, .inl (cB29, 6, .inl f30)), (a5, .inl (cB31, 6, .inl f32)), (a6, .inl (cB33, 6, .inl f34))]) [0, 1, 2, 3, 4] (by decide) rfl) hN) rfl rfl hl.1 rfl (lv_room (Nat.le_of_ble_eq_true rfl)) dX3_worthTogether_32 ⟨Nat.le_of_ble_eq_true rfl, Nat.le_of_ble_eq_true rfl⟩) hP hD hK hS hA [0, 1, 2, 3, 4] [] rfl rfl (by decide) (by decide) (fun z63 _u H locs hw hP hD hK hS => ?_)
          have b64 := hw
          have hP : va_P (dC, dI) vwCl [(a0, .inr (4, [g7, g8, g9, g10, g11, g12, .int k13, g14, g15, g16, .ref a4, g17, g18, g19, g20, .ref a5, g21, g22])), (a1, .inr (3, [g23, g24, g25, g26, .ref a6, g27, g28])), (a4, .inl (cB29, 6, .inl f30)), (a5, .inl (cB31, 6, .inl f32)), (a6, .inl (cB33, 6, .inl f34))] H := hP
          have hD : va_D A [(a0, .inr (4, [g7, g8, g9, g10, g11, g12, .int k13, g14, g15, g16, .ref a4, g17, g18, g19, g20, .ref a5, g21, g22])), (a1, .inr (3, [g23, g24, g25, g26, .ref a6, g27, g28])), (a4, .inl (cB29, 6, .inl f30)), (a5, .inl (cB31, 6, .inl f32)), (a6, .inl (cB33, 6, .inl f34))] := hD
          have hK : va_K (dC, dI) vwCl [(cB29, .int), (cB31, .int), (cB33, .int)] s := hK
          refine lv_iadd hx hb dX3_worthTogether_35 ?_
          refine lv_topi (fun z65 ez65 => ?_)
          clear ez65
          refine lv_istore (lv' := [(4, .int z65), (5, .int z55), (0, .ref a0), (1, .ref a1), (2, .int k2), (3, .int k3)]) hx hb dX3_worthTogether_36 hl (by decide) rfl (fun ls hl => ?_)
          obtain ⟨z66, ez66⟩ : ∃ y : Int32, y = z55 + 1 := ⟨_, rfl⟩
          have tz66 : z66.toInt = z55.toInt + 1 := by rw [ez66, iadd_t (by simp only [ltv_1]; omega) (by simp only [ltv_1]; omega)]; simp only [ltv_1]
          refine lv_iinc (v := z66) (lv' := [(5, .int z66), (4, .int z65), (0, .ref a0), (1, .ref a1), (2, .int k2), (3, .int k3)]) hx hb dX3_worthTogether_38 hl (k := 1) rfl (by rw [ez66]; rfl) (by decide) rfl (fun ls hl => ?_)
          refine lv_goto (tgt := 6) hx hb dX3_worthTogether_41 (by decide) ?_
          exact ih6 z66 z65 H locs ls (by first | omega | (simp only [ltv_0]; omega)) (by first | omega | (simp only [ltv_0]; omega)) hP hD hS (lv_sub hl [0, 1, 2, 3, 4, 5] rfl)
  exact L6_57 7 (0) (0) s.heap _ ls (by first | omega | (simp only [ltv_0]; omega)) (by first | omega | (simp only [ltv_0]; omega)) hP hD hS (lv_sub hl [0, 1, 2, 3, 4, 5] rfl)
theorem dX5_chance_0 : decode cX5_chance 0 = .ok (.ldc2_w 9, 3) := by decide +kernel
theorem dX5_chance_10 : decode cX5_chance 10 = .ok (.aload_n 0, 1) := by decide +kernel
theorem dX5_chance_11 : decode cX5_chance 11 = .ok (.getfield 11, 3) := by decide +kernel
theorem dX5_chance_14 : decode cX5_chance 14 = .ok (.if_icmp .ge 52, 3) := by decide +kernel
theorem dX5_chance_17 : decode cX5_chance 17 = .ok (.aload_n 1, 1) := by decide +kernel
theorem dX5_chance_18 : decode cX5_chance 18 = .ok (.getfield 17, 3) := by decide +kernel
theorem dX5_chance_21 : decode cX5_chance 21 = .ok (.iload 6, 2) := by decide +kernel
theorem dX5_chance_23 : decode cX5_chance 23 = .ok (.iaload, 1) := by decide +kernel
theorem dX5_chance_24 : decode cX5_chance 24 = .ok (.ifCond .ne 36, 3) := by decide +kernel
theorem dX5_chance_27 : decode cX5_chance 27 = .ok (.lload 4, 2) := by decide +kernel
theorem dX5_chance_29 : decode cX5_chance 29 = .ok (.ldc2_w 23, 3) := by decide +kernel
theorem dX5_chance_3 : decode cX5_chance 3 = .ok (.lstore 4, 2) := by decide +kernel
theorem dX5_chance_32 : decode cX5_chance 32 = .ok (.ldiv, 1) := by decide +kernel
theorem dX5_chance_33 : decode cX5_chance 33 = .ok (.aload_n 0, 1) := by decide +kernel
theorem dX5_chance_34 : decode cX5_chance 34 = .ok (.iload 6, 2) := by decide +kernel
theorem dX5_chance_36 : decode cX5_chance 36 = .ok (.iload_n 3, 1) := by decide +kernel
theorem dX5_chance_37 : decode cX5_chance 37 = .ok (.invokevirtual 25, 3) := by decide +kernel
theorem dX5_chance_40 : decode cX5_chance 40 = .ok (.i2l, 1) := by decide +kernel
theorem dX5_chance_41 : decode cX5_chance 41 = .ok (.lmul, 1) := by decide +kernel
theorem dX5_chance_42 : decode cX5_chance 42 = .ok (.lstore 7, 2) := by decide +kernel
theorem dX5_chance_44 : decode cX5_chance 44 = .ok (.iload 6, 2) := by decide +kernel
theorem dX5_chance_46 : decode cX5_chance 46 = .ok (.iload_n 2, 1) := by decide +kernel
theorem dX5_chance_47 : decode cX5_chance 47 = .ok (.if_icmp .ne 6, 3) := by decide +kernel
theorem dX5_chance_5 : decode cX5_chance 5 = .ok (.iconst 0, 1) := by decide +kernel
theorem dX5_chance_50 : decode cX5_chance 50 = .ok (.lload 7, 2) := by decide +kernel
theorem dX5_chance_52 : decode cX5_chance 52 = .ok (.lreturn, 1) := by decide +kernel
theorem dX5_chance_53 : decode cX5_chance 53 = .ok (.lload 4, 2) := by decide +kernel
theorem dX5_chance_55 : decode cX5_chance 55 = .ok (.lload 7, 2) := by decide +kernel
theorem dX5_chance_57 : decode cX5_chance 57 = .ok (.lsub, 1) := by decide +kernel
theorem dX5_chance_58 : decode cX5_chance 58 = .ok (.lstore 4, 2) := by decide +kernel
theorem dX5_chance_6 : decode cX5_chance 6 = .ok (.istore 6, 2) := by decide +kernel
theorem dX5_chance_60 : decode cX5_chance 60 = .ok (.iinc 6 1, 3) := by decide +kernel
theorem dX5_chance_63 : decode cX5_chance 63 = .ok (.goto (-55), 3) := by decide +kernel
theorem dX5_chance_66 : decode cX5_chance 66 = .ok (.iload_n 2, 1) := by decide +kernel
theorem dX5_chance_67 : decode cX5_chance 67 = .ok (.iconst (-1), 1) := by decide +kernel
theorem dX5_chance_68 : decode cX5_chance 68 = .ok (.if_icmp .ne 8, 3) := by decide +kernel
theorem dX5_chance_71 : decode cX5_chance 71 = .ok (.lload 4, 2) := by decide +kernel
theorem dX5_chance_73 : decode cX5_chance 73 = .ok (.goto 4, 3) := by decide +kernel
theorem dX5_chance_76 : decode cX5_chance 76 = .ok (.lconst 0, 1) := by decide +kernel
theorem dX5_chance_77 : decode cX5_chance 77 = .ok (.lreturn, 1) := by decide +kernel
theorem dX5_chance_8 : decode cX5_chance 8 = .ok (.iload 6, 2) := by decide +kernel
def vX5_chance : List Cond := .code yX5_chance cX5_chance 9 (some .long) :: ([.constantLong RX5 9 (1000000000000), .fieldLink RX5 11 "HookPier$Plan" "answers" "I", .fieldLink RX5 17 "HookPier$Now" "stage" "[I", .constantLong RX5 23 (100), .methodLink RX5 25 yX6_wishFor, .instanceMethod yX6_wishFor, .selects RX6 yX6_wishFor yX6_wishFor, .initialized RX6, .code yX6_wishFor cX6_wishFor 3 (some .int), .fieldLink RX6 52 "HookPier$Plan" "hunger" "[I", .methodLink RX6 94 yX6_wishBy, .instanceMethod yX6_wishBy, .selects RX6 yX6_wishBy yX6_wishBy, .code yX6_wishBy cX6_wishBy 5 (some .int), .code yX10_spotOf cX10_spotOf 1 (some .int), .initialized RX10, .static yX10_spotOf, .fieldLink RX6 46 "HookPier$Plan" "at" "[I", .methodLink RX6 89 Lib.Math.abs.name, .static Lib.Math.abs.name, .initialized "java/lang/Math", .code Lib.Math.abs.name Lib.Math.abs.code 1 (some .int), .fieldLink RX6 43 "HookPier$Plan" "kind" "[I", .fieldLink RX6 55 "HookPier$Plan" "likes" "[I", .code yX10_baitOf cX10_baitOf 1 (some .int), .static yX10_baitOf, .methodLink RX6 98 Lib.Math.min.name, .static Lib.Math.min.name, .code Lib.Math.min.name Lib.Math.min.code 2 (some .int), .methodLink RX6 102 Lib.Math.max.name, .static Lib.Math.max.name, .code Lib.Math.max.name Lib.Math.max.code 2 (some .int), .code yX10_fathomsOf cX10_fathomsOf 1 (some .int), .static yX10_fathomsOf, .fieldLink RX6 49 "HookPier$Plan" "depth" "[I"] ++ wsX60 ++ wsX40)
theorem iX5_chance_X6 : ∀ w ∈ wsX60, w ∈ vX5_chance := fun _ h => List.mem_cons_of_mem _ (List.mem_append_left _ (List.mem_append_right _ h))
theorem iX5_chance_X4 : ∀ w ∈ wsX40, w ∈ vX5_chance := fun _ h => List.mem_cons_of_mem _ (List.mem_append_right _ h)
set_option maxRecDepth 20000 in
theorem gX5_chance_0 : GoodIn vX5_chance (wsV RX5 25 RX6 yX6_wishFor vX6_wishFor) := goodIn_app (goodIn_r [.methodLink RX5 25 yX6_wishFor, .instanceMethod yX6_wishFor, .selects RX6 yX6_wishFor yX6_wishFor, .initialized RX6] [5, 6, 7, 8] (by decide +kernel) (by decide +kernel)) (goodIn_ca (goodIn_r (.code yX6_wishFor cX6_wishFor 3 (some .int) :: [.fieldLink RX6 52 "HookPier$Plan" "hunger" "[I", .methodLink RX6 94 yX6_wishBy, .instanceMethod yX6_wishBy, .selects RX6 yX6_wishBy yX6_wishBy, .initialized RX6, .code yX6_wishBy cX6_wishBy 5 (some .int), .code yX10_spotOf cX10_spotOf 1 (some .int), .initialized RX10, .static yX10_spotOf, .fieldLink RX6 46 "HookPier$Plan" "at" "[I", .methodLink RX6 89 Lib.Math.abs.name, .static Lib.Math.abs.name, .initialized "java/lang/Math", .code Lib.Math.abs.name Lib.Math.abs.code 1 (some .int), .fieldLink RX6 43 "HookPier$Plan" "kind" "[I", .fieldLink RX6 55 "HookPier$Plan" "likes" "[I", .code yX10_baitOf cX10_baitOf 1 (some .int), .static yX10_baitOf, .methodLink RX6 98 Lib.Math.min.name, .static Lib.Math.min.name, .code Lib.Math.min.name Lib.Math.min.code 2 (some .int), .methodLink RX6 102 Lib.Math.max.name, .static Lib.Math.max.name, .code Lib.Math.max.name Lib.Math.max.code 2 (some .int), .code yX10_fathomsOf cX10_fathomsOf 1 (some .int), .static yX10_fathomsOf, .fieldLink RX6 49 "HookPier$Plan" "depth" "[I"]) [9, 10, 11, 12, 13, 8, 14, 15, 16, 17, 18, 19, 20, 21, 22, 23, 24, 25, 26, 27, 28, 29, 30, 31, 32, 33, 34, 35] (by decide +kernel) (by decide +kernel) : GoodIn vX5_chance (.code yX6_wishFor cX6_wishFor 3 (some .int) :: [.fieldLink RX6 52 "HookPier$Plan" "hunger" "[I", .methodLink RX6 94 yX6_wishBy, .instanceMethod yX6_wishBy, .selects RX6 yX6_wishBy yX6_wishBy, .initialized RX6, .code yX6_wishBy cX6_wishBy 5 (some .int), .code yX10_spotOf cX10_spotOf 1 (some .int), .initialized RX10, .static yX10_spotOf, .fieldLink RX6 46 "HookPier$Plan" "at" "[I", .methodLink RX6 89 Lib.Math.abs.name, .static Lib.Math.abs.name, .initialized "java/lang/Math", .code Lib.Math.abs.name Lib.Math.abs.code 1 (some .int), .fieldLink RX6 43 "HookPier$Plan" "kind" "[I", .fieldLink RX6 55 "HookPier$Plan" "likes" "[I", .code yX10_baitOf cX10_baitOf 1 (some .int), .static yX10_baitOf, .methodLink RX6 98 Lib.Math.min.name, .static Lib.Math.min.name, .code Lib.Math.min.name Lib.Math.min.code 2 (some .int), .methodLink RX6 102 Lib.Math.max.name, .static Lib.Math.max.name, .code Lib.Math.max.name Lib.Math.max.code 2 (some .int), .code yX10_fathomsOf cX10_fathomsOf 1 (some .int), .static yX10_fathomsOf, .fieldLink RX6 49 "HookPier$Plan" "depth" "[I"])) (goodIn_sub iX5_chance_X6 (by decide +kernel)))
set_option maxHeartbeats 2000000 in
set_option maxRecDepth 100000 in
theorem kX5_chance (l : Launch) (dC : Nat → ClassId) (dI : Nat → Nat → Nat) (a0 : Nat) (a1 : Nat) (k2 : Int32) (k3 : Int32) (a4 : Nat) (a5 : Nat) (a6 : Nat) (a7 : Nat) (a8 : Nat) (a9 : Nat) (g10 : Value) (g11 : Value) (g12 : Value) (g13 : Value) (g14 : Value) (g15 : Value) (k16 : Int32) (g17 : Value) (g18 : Value) (g19 : Value) (g20 : Value) (g21 : Value) (g22 : Value) (g23 : Value) (g24 : Value) (g25 : Value) (g26 : Value) (g27 : Value) (g28 : Value) (cB29 : ClassId) (f30 : Nat → Int32) (cB31 : ClassId) (f32 : Nat → Int32) (cB33 : ClassId) (f34 : Nat → Int32) (cB35 : ClassId) (f36 : Nat → Int32) (cB37 : ClassId) (f38 : Nat → Int32) (cB39 : ClassId) (f40 : Nat → Int32) (hk16 : (0 ≤ k16.toInt ∧ k16.toInt ≤ 6)) (sz : Nat) : Met l yX5_chance vX5_chance ({ frames := 3, cells := 0, slots := 0, locals := 67 }) (PC (dC, dI) [.ref a0, .ref a1, .int k2, .int k3] sz [(a0, .inr (4, [g10, g11, g12, g13, g14, g15, .int k16, g17, g18, g19, .ref a4, .ref a5, .ref a6, .ref a7, .ref a8, g20, g21, g22])), (a1, .inr (3, [g23, g24, g25, .ref a9, g26, g27, g28])), (a4, .inl (cB29, 6, .inl f30)), (a5, .inl (cB31, 6, .inl f32)), (a6, .inl (cB33, 6, .inl f34)), (a7, .inl (cB35, 6, .inl f36)), (a8, .inl (cB37, 6, .inl f38)), (a9, .inl (cB39, 6, .inl f40))] [(cB29, .int), (cB31, .int), (cB33, .int), (cB35, .int), (cB37, .int), (cB39, .int)]) (va_Ql (S := Unit) (fun (r : Int64) _ => True) (fun _ t => BC (dC, dI) (va_A [(a0, .inr (4, [g10, g11, g12, g13, g14, g15, .int k16, g17, g18, g19, .ref a4, .ref a5, .ref a6, .ref a7, .ref a8, g20, g21, g22])), (a1, .inr (3, [g23, g24, g25, .ref a9, g26, g27, g28])), (a4, .inl (cB29, 6, .inl f30)), (a5, .inl (cB31, 6, .inl f32)), (a6, .inl (cB33, 6, .inl f34)), (a7, .inl (cB35, 6, .inl f36)), (a8, .inl (cB37, 6, .inl f38)), (a9, .inl (cB39, 6, .inl f40))] sz) [(a0, .inr (4, [g10, g11, g12, g13, g14, g15, .int k16, g17, g18, g19, .ref a4, .ref a5, .ref a6, .ref a7, .ref a8, g20, g21, g22])), (a1, .inr (3, [g23, g24, g25, .ref a9, g26, g27, g28])), (a4, .inl (cB29, 6, .inl f30)), (a5, .inl (cB31, 6, .inl f32)), (a6, .inl (cB33, 6, .inl f34)), (a7, .inl (cB35, 6, .inl f36)), (a8, .inl (cB37, 6, .inl f38)), (a9, .inl (cB39, 6, .inl f40))] [] t) (va_A [(a0, .inr (4, [g10, g11, g12, g13, g14, g15, .int k16, g17, g18, g19, .ref a4, .ref a5, .ref a6, .ref a7, .ref a8, g20, g21, g22])), (a1, .inr (3, [g23, g24, g25, .ref a9, g26, g27, g28])), (a4, .inl (cB29, 6, .inl f30)), (a5, .inl (cB31, 6, .inl f32)), (a6, .inl (cB33, 6, .inl f34)), (a7, .inl (cB35, 6, .inl f36)), (a8, .inl (cB37, 6, .inl f38)), (a9, .inl (cB39, 6, .inl f40))] sz)) 0 0 (va_A [(a0, .inr (4, [g10, g11, g12, g13, g14, g15, .int k16, g17, g18, g19, .ref a4, .ref a5, .ref a6, .ref a7, .ref a8, g20, g21, g22])), (a1, .inr (3, [g23, g24, g25, .ref a9, g26, g27, g28])), (a4, .inl (cB29, 6, .inl f30)), (a5, .inl (cB31, 6, .inl f32)), (a6, .inl (cB33, 6, .inl f34)), (a7, .inl (cB35, 6, .inl f36)), (a8, .inl (cB37, 6, .inl f38)), (a9, .inl (cB39, 6, .inl f40))] sz) := by
  refine Met.ofW (cc := cX5_chance) (maxL := 9) (ret := (some .long)) (by decide) rfl ?_
  intro p e s m args below meth c s₁ B hml hv
  obtain ⟨rfl, hsz, hP, hK, hD0, hN⟩ := hv
  have hx := B.exec
  have hb := B.bytes
  have hr := B.returns
  have hts := atoms_spec (ws := vX5_chance) B.pre
  have hown : s.vm.findClass RX5 = some m.cls := findClass_of_methodNamed B.named
  have hlocks := B.notSynchronized
  subst hsz
  have hD := hD0.self (sz := s.heap.size)
  generalize hAe : va_A [(a0, .inr (4, [g10, g11, g12, g13, g14, g15, .int k16, g17, g18, g19, .ref a4, .ref a5, .ref a6, .ref a7, .ref a8, g20, g21, g22])), (a1, .inr (3, [g23, g24, g25, .ref a9, g26, g27, g28])), (a4, .inl (cB29, 6, .inl f30)), (a5, .inl (cB31, 6, .inl f32)), (a6, .inl (cB33, 6, .inl f34)), (a7, .inl (cB35, 6, .inl f36)), (a8, .inl (cB37, 6, .inl f38)), (a9, .inl (cB39, 6, .inl f40))] s.heap.size = A at hD ⊢
  have hA : ∀ q : Nat, s.heap.size ≤ q → A q := fun q h => by rw [← hAe]; exact Or.inr h
  have hS : va_S A s.heap s.heap [] := va_S.rf
  have hP : va_P (dC, dI) vwCl [(a0, .inr (4, [g10, g11, g12, g13, g14, g15, .int k16, g17, g18, g19, .ref a4, .ref a5, .ref a6, .ref a7, .ref a8, g20, g21, g22])), (a1, .inr (3, [g23, g24, g25, .ref a9, g26, g27, g28])), (a4, .inl (cB29, 6, .inl f30)), (a5, .inl (cB31, 6, .inl f32)), (a6, .inl (cB33, 6, .inl f34)), (a7, .inl (cB35, 6, .inl f36)), (a8, .inl (cB37, 6, .inl f38)), (a9, .inl (cB39, 6, .inl f40))] s.heap := hP
  have hl := lv_entry ([.ref a0, .ref a1, .int k2, .int k3]) (n := 9) (Nat.le_of_ble_eq_true rfl)
  rw [lg_entry_eq]
  generalize (lg_sl ([.ref a0, .ref a1, .int k2, .int k3]) ++ List.replicate (9 - (lg_sl ([.ref a0, .ref a1, .int k2, .int k3])).length) Slot.unset).toArray = ls at hl ⊢
  have hl : lv_has ls 9 [(0, .ref a0), (1, .ref a1), (2, .int k2), (3, .int k3)] := hl
  refine lv_ldc2 hx hb hown (hts (.constantLong RX5 9 (1000000000000)) (List.mem_of_getElem? (i := 1) rfl)) dX5_chance_0 ?_
  refine lv_lstore (lv' := [(4, .long 1000000000000), (0, .ref a0), (1, .ref a1), (2, .int k2), (3, .int k3)]) hx hb dX5_chance_3 hl (by decide) rfl (fun ls hl => ?_)
  refine lv_iconst (v := 0) hx hb dX5_chance_5 (by decide) ?_
  refine lv_istore (lv' := [(6, .int 0), (4, .long 1000000000000), (0, .ref a0), (1, .ref a1), (2, .int k2), (3, .int k3)]) hx hb dX5_chance_6 hl (by decide) rfl (fun ls hl => ?_)
  have L8_85 : ∀ (n : Nat) (z83 : Int32) (j84 : Int64) (H : Heap) (locs : List Loc) (ls : Array Slot), (0 ≤ z83.toInt ∧ z83.toInt ≤ 6) → 6 - z83.toInt < (n : Int) → va_P (dC, dI) vwCl [(a0, .inr (4, [g10, g11, g12, g13, g14, g15, .int k16, g17, g18, g19, .ref a4, .ref a5, .ref a6, .ref a7, .ref a8, g20, g21, g22])), (a1, .inr (3, [g23, g24, g25, .ref a9, g26, g27, g28])), (a4, .inl (cB29, 6, .inl f30)), (a5, .inl (cB31, 6, .inl f32)), (a6, .inl (cB33, 6, .inl f34)), (a7, .inl (cB35, 6, .inl f36)), (a8, .inl (cB37, 6, .inl f38)), (a9, .inl (cB39, 6, .inl f40))] H → va_D A [(a0, .inr (4, [g10, g11, g12, g13, g14, g15, .int k16, g17, g18, g19, .ref a4, .ref a5, .ref a6, .ref a7, .ref a8, g20, g21, g22])), (a1, .inr (3, [g23, g24, g25, .ref a9, g26, g27, g28])), (a4, .inl (cB29, 6, .inl f30)), (a5, .inl (cB31, 6, .inl f32)), (a6, .inl (cB33, 6, .inl f34)), (a7, .inl (cB35, 6, .inl f36)), (a8, .inl (cB37, 6, .inl f38)), (a9, .inl (cB39, 6, .inl f40))] → va_S A s.heap H locs → lv_has ls 9 [(6, .int z83), (4, .long j84), (0, .ref a0), (1, .ref a1), (2, .int k2), (3, .int k3)] → W p l e (headSpec vX5_chance { frames := 3, cells := 0, slots := 0, locals := 67 }).room s m ([.ref a0, .ref a1, .int k2, .int k3]).toArray below meth c H locs 0 0 (MQ below (va_Ql (S := Unit) (fun (r : Int64) _ => True) (fun _ t => BC (dC, dI) A [(a0, .inr (4, [g10, g11, g12, g13, g14, g15, .int k16, g17, g18, g19, .ref a4, .ref a5, .ref a6, .ref a7, .ref a8, g20, g21, g22])), (a1, .inr (3, [g23, g24, g25, .ref a9, g26, g27, g28])), (a4, .inl (cB29, 6, .inl f30)), (a5, .inl (cB31, 6, .inl f32)), (a6, .inl (cB33, 6, .inl f34)), (a7, .inl (cB35, 6, .inl f36)), (a8, .inl (cB37, 6, .inl f38)), (a9, .inl (cB39, 6, .inl f40))] [] t) A) ([.ref a0, .ref a1, .int k2, .int k3]).toArray s 0 0 A) (F0 m 8 ls []) := by
    intro n
    induction n with
    | zero =>
      intro z83 j84 H locs ls b8_0 hm _ _ _ _
      exact absurd hm (by omega)
    | succ n ih8 =>
      intro z83 j84 H locs ls b8_0 hm8 hP hD hS hl
      refine lv_iload hx hb dX5_chance_8 (lv_at hl 0 rfl) ?_
      refine lv_aload_n hx hb dX5_chance_10 rfl (lv_at hl 2 rfl) ?_
      refine va_get (D := (dC, dI)) (ci := 4) (v := .int k16) (C := RX6) (T := TX6) (N := 18) hx hb hts iX5_chance_X6 hown hK hP 0 rfl rfl 6 (by decide) (hts (.fieldLink RX5 11 "HookPier$Plan" "answers" "I") (List.mem_of_getElem? (i := 2) rfl)) (fun _ h9 => h9) rfl dX5_chance_11 ?_
      refine lv_icmp_ge (tgt := 66) hx hb dX5_chance_14 (by decide) (fun c86 => ?_) (fun c86 => ?_)
      · simp only [fa_lt, fa_le, fa_eq, ltv_0] at c86
        refine lv_iload_n hx hb dX5_chance_66 rfl (lv_at hl 4 rfl) ?_
        refine lv_iconst (v := (-1)) hx hb dX5_chance_67 (by decide) ?_
        refine lv_icmp_ne (tgt := 76) hx hb dX5_chance_68 (by decide) (fun c87 => ?_) (fun c87 => ?_)
        · simp only [fa_lt, fa_le, fa_eq, ltv_m1, ltv_0] at c87
          refine lv_lconst (v := 0) hx hb dX5_chance_76 (by decide) ?_
          have hP9 := hP.sub (ws' := [(a0, .inr (4, [g10, g11, g12, g13, g14, g15, .int k16, g17, g18, g19, .ref a4, .ref a5, .ref a6, .ref a7, .ref a8, g20, g21, g22])), (a1, .inr (3, [g23, g24, g25, .ref a9, g26, g27, g28])), (a4, .inl (cB29, 6, .inl f30)), (a5, .inl (cB31, 6, .inl f32)), (a6, .inl (cB33, 6, .inl f34)), (a7, .inl (cB35, 6, .inl f36)), (a8, .inl (cB37, 6, .inl f38)), (a9, .inl (cB39, 6, .inl f40))]) [0, 1, 2, 3, 4, 5, 6, 7] rfl
          have hD9 := hD.sub (ws' := [(a0, .inr (4, [g10, g11, g12, g13, g14, g15, .int k16, g17, g18, g19, .ref a4, .ref a5, .ref a6, .ref a7, .ref a8, g20, g21, g22])), (a1, .inr (3, [g23, g24, g25, .ref a9, g26, g27, g28])), (a4, .inl (cB29, 6, .inl f30)), (a5, .inl (cB31, 6, .inl f32)), (a6, .inl (cB33, 6, .inl f34)), (a7, .inl (cB35, 6, .inl f36)), (a8, .inl (cB37, 6, .inl f38)), (a9, .inl (cB39, 6, .inl f40))]) [0, 1, 2, 3, 4, 5, 6, 7] (by decide) rfl
          have hK9 := hK.sub (tys' := []) [] rfl
          exact W.lret (v := 0) hx hb hr (fun t ht hW => ⟨⟨0, (), rfl, trivial, by rw [ht]; exact hP9, va_K.moved hW.alike hK9, hD9⟩, hS.F ht⟩) hS.2.2 dX5_chance_77
        · simp only [fa_lt, fa_le, fa_eq, ltv_m1, ltv_0] at c87
          refine lv_lload hx hb dX5_chance_71 (lv_at hl 1 rfl) ?_
          refine lv_goto (tgt := 77) hx hb dX5_chance_73 (by decide) ?_
          have hP9 := hP.sub (ws' := [(a0, .inr (4, [g10, g11, g12, g13, g14, g15, .int k16, g17, g18, g19, .ref a4, .ref a5, .ref a6, .ref a7, .ref a8, g20, g21, g22])), (a1, .inr (3, [g23, g24, g25, .ref a9, g26, g27, g28])), (a4, .inl (cB29, 6, .inl f30)), (a5, .inl (cB31, 6, .inl f32)), (a6, .inl (cB33, 6, .inl f34)), (a7, .inl (cB35, 6, .inl f36)), (a8, .inl (cB37, 6, .inl f38)), (a9, .inl (cB39, 6, .inl f40))]) [0, 1, 2, 3, 4, 5, 6, 7] rfl
          have hD9 := hD.sub (ws' := [(a0, .inr (4, [g10, g11, g12, g13, g14, g15, .int k16, g17, g18, g19, .ref a4, .ref a5, .ref a6, .ref a7, .ref a8, g20, g21, g22])), (a1, .inr (3, [g23, g24, g25, .ref a9, g26, g27, g28])), (a4, .inl (cB29, 6, .inl f30)), (a5, .inl (cB31, 6, .inl f32)), (a6, .inl (cB33, 6, .inl f34)), (a7, .inl (cB35, 6, .inl f36)), (a8, .inl (cB37, 6, .inl f38)), (a9, .inl (cB39, 6, .inl f40))]) [0, 1, 2, 3, 4, 5, 6, 7] (by decide) rfl
          have hK9 := hK.sub (tys' := []) [] rfl
          exact W.lret (v := j84) hx hb hr (fun t ht hW => ⟨⟨j84, (), rfl, trivial, by rw [ht]; exact hP9, va_K.moved hW.alike hK9, hD9⟩, hS.F ht⟩) hS.2.2 dX5_chance_77
      · simp only [fa_lt, fa_le, fa_eq, ltv_0] at c86
        refine lv_aload_n hx hb dX5_chance_17 rfl (lv_at hl 3 rfl) ?_
        refine va_get (D := (dC, dI)) (ci := 3) (v := .ref a9) (C := RX4) (T := TX4) (N := 7) hx hb hts iX5_chance_X4 hown hK hP 1 rfl rfl 3 (by decide) (hts (.fieldLink RX5 17 "HookPier$Now" "stage" "[I") (List.mem_of_getElem? (i := 3) rfl)) (fun _ h9 => h9) rfl dX5_chance_18 ?_
        refine lv_iload hx hb dX5_chance_21 (lv_at hl 0 rfl) ?_
        refine va_iald hx hb hK hP 7 5 rfl rfl (vp_in_iff.mpr (by omega)) dX5_chance_23 ?_
        refine lv_topi (fun z88 ez88 => ?_)
        clear ez88
        refine lv_if_ne (tgt := 60) hx hb dX5_chance_24 (by decide) (fun c89 => ?_) (fun c89 => ?_)
        · simp only [fa_lt, fa_le, fa_eq, ltv_0] at c89
          obtain ⟨z90, ez90⟩ : ∃ y : Int32, y = z83 + 1 := ⟨_, rfl⟩
          have tz90 : z90.toInt = z83.toInt + 1 := by rw [ez90, iadd_t (by simp only [ltv_1]; omega) (by simp only [ltv_1]; omega)]; simp only [ltv_1]
          refine lv_iinc (v := z90) (lv' := [(6, .int z90), (4, .long j84), (0, .ref a0), (1, .ref a1), (2, .int k2), (3, .int k3)]) hx hb dX5_chance_60 hl (k := 0) rfl (by rw [ez90]; rfl) (by decide) rfl (fun ls hl => ?_)
          refine lv_goto (tgt := 8) hx hb dX5_chance_63 (by decide) ?_
          exact ih8 z90 j84 H locs ls (by first | omega | (simp only [ltv_0]; omega)) (by first | omega | (simp only [ltv_0]; omega)) hP hD hS (lv_sub hl [0, 1, 2, 3, 4, 5] rfl)
        · simp only [fa_lt, fa_le, fa_eq, ltv_0] at c89
          refine lv_lload hx hb dX5_chance_27 (lv_at hl 1 rfl) ?_
          refine lv_ldc2 hx hb hown (hts (.constantLong RX5 23 (100)) (List.mem_of_getElem? (i := 4) rfl)) dX5_chance_29 ?_
          refine lv_ldiv hx hb dX5_chance_32 (by decide) ?_
          refine lv_topl (fun z91 ez91 => ?_)
          clear ez91
          refine lv_aload_n hx hb dX5_chance_33 rfl (lv_at hl 2 rfl) ?_
          refine lv_iload hx hb dX5_chance_34 (lv_at hl 0 rfl) ?_
          refine lv_iload_n hx hb dX5_chance_36 rfl (lv_at hl 5 rfl) ?_
          refine cl_i (wc := [(a0, .inr (4, [g10, g11, g12, g13, g14, g15, .int k16, g17, g18, g19, .ref a4, .ref a5, .ref a6, .ref a7, .ref a8, g20, g21, g22])), (a4, .inl (cB29, 6, .inl f30)), (a5, .inl (cB31, 6, .inl f32)), (a6, .inl (cB33, 6, .inl f34)), (a7, .inl (cB35, 6, .inl f36)), (a8, .inl (cB37, 6, .inl f38))]) (wr := [(a1, .inr (3, [g23, g24, g25, .ref a9, g26, g27, g28])), (a9, .inl (cB39, 6, .inl f40))]) (va_runV (As := [.int z83, .int k3]) (rest := [.long z91]) ⟨hx, hb, hml, hown, hts⟩ (kX6_wishFor l dC dI a0 z83 k3 a4 a5 a6 a7 a8 (g10) (g11) (g12) (g13) (g14) (g15) (.int k16) (g17) (g18) (g19) (g20) (g21) (g22) cB29 f30 cB31 f32 cB33 f34 cB35 f36 cB37 f38 (by first | omega | (simp only [ltv_0]; omega)) H.size) (cwV 2 hts gX5_chance_0 rfl rfl rfl (by decide +kernel) ⟨Nat.le_of_ble_eq_true rfl, Nat.le_of_ble_eq_true rfl⟩) (PV (hP.sub (ws' := [(a0, .inr (4, [g10, g11, g12, g13, g14, g15, .int k16, g17, g18, g19, .ref a4, .ref a5, .ref a6, .ref a7, .ref a8, g20, g21, g22])), (a4, .inl (cB29, 6, .inl f30)), (a5, .inl (cB31, 6, .inl f32)), (a6, .inl (cB33, 6, .inl f34)), (a7, .inl (cB35, 6, .inl f36)), (a8, .inl (cB37, 6, .inl f38))]) [0, 2, 3, 4, 5, 6] rfl) (hK.sub (tys' := [(cB29, .int), (cB31, .int), (cB33, .int), (cB35, .int), (cB37, .int)]) [0, 1, 2, 3, 4] rfl) (hD.sub (ws' := [(a0, .inr (4, [g10, g11, g12, g13, g14, g15, .int k16, g17, g18, g19, .ref a4, .ref a5, .ref a6, .ref a7, .ref a8, g20, g21, g22])), (a4, .inl (cB29, 6, .inl f30)), (a5, .inl (cB31, 6, .inl f32)), (a6, .inl (cB33, 6, .inl f34)), (a7, .inl (cB35, 6, .inl f36)), (a8, .inl (cB37, 6, .inl f38))]) [0, 2, 3, 4, 5, 6] (by decide) rfl) hN 0 rfl rfl) rfl rfl hl.1 rfl (lv_room (Nat.le_of_ble_eq_true rfl)) dX5_chance_37 ⟨Nat.le_of_ble_eq_true rfl, Nat.le_of_ble_eq_true rfl⟩) hP hD hK hS hA [0, 2, 3, 4, 5, 6] [1, 7] rfl rfl (by decide) (by decide) (fun z92 _u H locs hw hP hD hK hS => ?_)
          have b93 := hw
          have hP : va_P (dC, dI) vwCl [(a1, .inr (3, [g23, g24, g25, .ref a9, g26, g27, g28])), (a9, .inl (cB39, 6, .inl f40)), (a0, .inr (4, [g10, g11, g12, g13, g14, g15, .int k16, g17, g18, g19, .ref a4, .ref a5, .ref a6, .ref a7, .ref a8, g20, g21, g22])), (a4, .inl (cB29, 6, .inl f30)), (a5, .inl (cB31, 6, .inl f32)), (a6, .inl (cB33, 6, .inl f34)), (a7, .inl (cB35, 6, .inl f36)), (a8, .inl (cB37, 6, .inl f38))] H := hP
          have hD : va_D A [(a1, .inr (3, [g23, g24, g25, .ref a9, g26, g27, g28])), (a9, .inl (cB39, 6, .inl f40)), (a0, .inr (4, [g10, g11, g12, g13, g14, g15, .int k16, g17, g18, g19, .ref a4, .ref a5, .ref a6, .ref a7, .ref a8, g20, g21, g22])), (a4, .inl (cB29, 6, .inl f30)), (a5, .inl (cB31, 6, .inl f32)), (a6, .inl (cB33, 6, .inl f34)), (a7, .inl (cB35, 6, .inl f36)), (a8, .inl (cB37, 6, .inl f38))] := hD
          have hK : va_K (dC, dI) vwCl [(cB29, .int), (cB31, .int), (cB33, .int), (cB35, .int), (cB37, .int), (cB39, .int)] s := hK
          refine lv_i2l hx hb dX5_chance_40 rfl ?_
          refine lv_topl (fun z94 ez94 => ?_)
          clear ez94
          refine lv_lmul hx hb dX5_chance_41 ?_
          refine lv_topl (fun z95 ez95 => ?_)
          clear ez95
          refine lv_lstore (lv' := [(7, .long z95), (6, .int z83), (4, .long j84), (0, .ref a0), (1, .ref a1), (2, .int k2), (3, .int k3)]) hx hb dX5_chance_42 hl (by decide) rfl (fun ls hl => ?_)
          refine lv_iload hx hb dX5_chance_44 (lv_at hl 1 rfl) ?_
          refine lv_iload_n hx hb dX5_chance_46 rfl (lv_at hl 5 rfl) ?_
          refine lv_icmp_ne (tgt := 53) hx hb dX5_chance_47 (by decide) (fun c96 => ?_) (fun c96 => ?_)
          · simp only [fa_lt, fa_le, fa_eq, ltv_0] at c96
            refine lv_lload hx hb dX5_chance_53 (lv_at hl 2 rfl) ?_
            refine lv_lload hx hb dX5_chance_55 (lv_at hl 0 rfl) ?_
            refine lv_lsub hx hb dX5_chance_57 ?_
            refine lv_topl (fun z97 ez97 => ?_)
            clear ez97
            refine lv_lstore (lv' := [(4, .long z97), (7, .long z95), (6, .int z83), (0, .ref a0), (1, .ref a1), (2, .int k2), (3, .int k3)]) hx hb dX5_chance_58 hl (by decide) rfl (fun ls hl => ?_)
            obtain ⟨z98, ez98⟩ : ∃ y : Int32, y = z83 + 1 := ⟨_, rfl⟩
            have tz98 : z98.toInt = z83.toInt + 1 := by rw [ez98, iadd_t (by simp only [ltv_1]; omega) (by simp only [ltv_1]; omega)]; simp only [ltv_1]
            refine lv_iinc (v := z98) (lv' := [(6, .int z98), (4, .long z97), (7, .long z95), (0, .ref a0), (1, .ref a1), (2, .int k2), (3, .int k3)]) hx hb dX5_chance_60 hl (k := 2) rfl (by rw [ez98]; rfl) (by decide) rfl (fun ls hl => ?_)
            refine lv_goto (tgt := 8) hx hb dX5_chance_63 (by decide) ?_
            exact ih8 z98 z97 H locs ls (by first | omega | (simp only [ltv_0]; omega)) (by first | omega | (simp only [ltv_0]; omega)) (hP.sub (ws' := [(a0, .inr (4, [g10, g11, g12, g13, g14, g15, .int k16, g17, g18, g19, .ref a4, .ref a5, .ref a6, .ref a7, .ref a8, g20, g21, g22])), (a1, .inr (3, [g23, g24, g25, .ref a9, g26, g27, g28])), (a4, .inl (cB29, 6, .inl f30)), (a5, .inl (cB31, 6, .inl f32)), (a6, .inl (cB33, 6, .inl f34)), (a7, .inl (cB35, 6, .inl f36)), (a8, .inl (cB37, 6, .inl f38)), (a9, .inl (cB39, 6, .inl f40))]) [2, 0, 3, 4, 5, 6, 7, 1] rfl) (hD.sub (ws' := [(a0, .inr (4, [g10, g11, g12, g13, g14, g15, .int k16, g17, g18, g19, .ref a4, .ref a5, .ref a6, .ref a7, .ref a8, g20, g21, g22])), (a1, .inr (3, [g23, g24, g25, .ref a9, g26, g27, g28])), (a4, .inl (cB29, 6, .inl f30)), (a5, .inl (cB31, 6, .inl f32)), (a6, .inl (cB33, 6, .inl f34)), (a7, .inl (cB35, 6, .inl f36)), (a8, .inl (cB37, 6, .inl f38)), (a9, .inl (cB39, 6, .inl f40))]) [2, 0, 3, 4, 5, 6, 7, 1] (by decide) rfl) hS (lv_sub hl [0, 1, 3, 4, 5, 6] rfl)
          · simp only [fa_lt, fa_le, fa_eq, ltv_0] at c96
            refine lv_lload hx hb dX5_chance_50 (lv_at hl 0 rfl) ?_
            have hP9 := hP.sub (ws' := [(a0, .inr (4, [g10, g11, g12, g13, g14, g15, .int k16, g17, g18, g19, .ref a4, .ref a5, .ref a6, .ref a7, .ref a8, g20, g21, g22])), (a1, .inr (3, [g23, g24, g25, .ref a9, g26, g27, g28])), (a4, .inl (cB29, 6, .inl f30)), (a5, .inl (cB31, 6, .inl f32)), (a6, .inl (cB33, 6, .inl f34)), (a7, .inl (cB35, 6, .inl f36)), (a8, .inl (cB37, 6, .inl f38)), (a9, .inl (cB39, 6, .inl f40))]) [2, 0, 3, 4, 5, 6, 7, 1] rfl
            have hD9 := hD.sub (ws' := [(a0, .inr (4, [g10, g11, g12, g13, g14, g15, .int k16, g17, g18, g19, .ref a4, .ref a5, .ref a6, .ref a7, .ref a8, g20, g21, g22])), (a1, .inr (3, [g23, g24, g25, .ref a9, g26, g27, g28])), (a4, .inl (cB29, 6, .inl f30)), (a5, .inl (cB31, 6, .inl f32)), (a6, .inl (cB33, 6, .inl f34)), (a7, .inl (cB35, 6, .inl f36)), (a8, .inl (cB37, 6, .inl f38)), (a9, .inl (cB39, 6, .inl f40))]) [2, 0, 3, 4, 5, 6, 7, 1] (by decide) rfl
            have hK9 := hK.sub (tys' := []) [] rfl
            exact W.lret (v := z95) hx hb hr (fun t ht hW => ⟨⟨z95, (), rfl, trivial, by rw [ht]; exact hP9, va_K.moved hW.alike hK9, hD9⟩, hS.F ht⟩) hS.2.2 dX5_chance_52
  exact L8_85 7 (0) (1000000000000) s.heap _ ls (by first | omega | (simp only [ltv_0]; omega)) (by first | omega | (simp only [ltv_0]; omega)) hP hD hS (lv_sub hl [0, 1, 2, 3, 4, 5] rfl)
theorem dX5_meanWorth_0 : decode cX5_meanWorth 0 = .ok (.lconst 0, 1) := by decide +kernel
theorem dX5_meanWorth_1 : decode cX5_meanWorth 1 = .ok (.lstore_n 3, 1) := by decide +kernel
theorem dX5_meanWorth_11 : decode cX5_meanWorth 11 = .ok (.if_icmp .ge 40, 3) := by decide +kernel
theorem dX5_meanWorth_14 : decode cX5_meanWorth 14 = .ok (.aload_n 0, 1) := by decide +kernel
theorem dX5_meanWorth_15 : decode cX5_meanWorth 15 = .ok (.getfield 29, 3) := by decide +kernel
theorem dX5_meanWorth_18 : decode cX5_meanWorth 18 = .ok (.iload 5, 2) := by decide +kernel
theorem dX5_meanWorth_2 : decode cX5_meanWorth 2 = .ok (.iconst 0, 1) := by decide +kernel
theorem dX5_meanWorth_20 : decode cX5_meanWorth 20 = .ok (.iaload, 1) := by decide +kernel
theorem dX5_meanWorth_21 : decode cX5_meanWorth 21 = .ok (.iconst 2, 1) := by decide +kernel
theorem dX5_meanWorth_22 : decode cX5_meanWorth 22 = .ok (.if_icmp .eq 23, 3) := by decide +kernel
theorem dX5_meanWorth_25 : decode cX5_meanWorth 25 = .ok (.lload_n 3, 1) := by decide +kernel
theorem dX5_meanWorth_26 : decode cX5_meanWorth 26 = .ok (.aload_n 0, 1) := by decide +kernel
theorem dX5_meanWorth_27 : decode cX5_meanWorth 27 = .ok (.getfield 32, 3) := by decide +kernel
theorem dX5_meanWorth_3 : decode cX5_meanWorth 3 = .ok (.istore 5, 2) := by decide +kernel
theorem dX5_meanWorth_30 : decode cX5_meanWorth 30 = .ok (.iload 5, 2) := by decide +kernel
theorem dX5_meanWorth_32 : decode cX5_meanWorth 32 = .ok (.iaload, 1) := by decide +kernel
theorem dX5_meanWorth_33 : decode cX5_meanWorth 33 = .ok (.i2l, 1) := by decide +kernel
theorem dX5_meanWorth_34 : decode cX5_meanWorth 34 = .ok (.aload_n 0, 1) := by decide +kernel
theorem dX5_meanWorth_35 : decode cX5_meanWorth 35 = .ok (.aload_n 1, 1) := by decide +kernel
theorem dX5_meanWorth_36 : decode cX5_meanWorth 36 = .ok (.iload 5, 2) := by decide +kernel
theorem dX5_meanWorth_38 : decode cX5_meanWorth 38 = .ok (.iload_n 2, 1) := by decide +kernel
theorem dX5_meanWorth_39 : decode cX5_meanWorth 39 = .ok (.invokestatic 35, 3) := by decide +kernel
theorem dX5_meanWorth_42 : decode cX5_meanWorth 42 = .ok (.lmul, 1) := by decide +kernel
theorem dX5_meanWorth_43 : decode cX5_meanWorth 43 = .ok (.ladd, 1) := by decide +kernel
theorem dX5_meanWorth_44 : decode cX5_meanWorth 44 = .ok (.lstore_n 3, 1) := by decide +kernel
theorem dX5_meanWorth_45 : decode cX5_meanWorth 45 = .ok (.iinc 5 1, 3) := by decide +kernel
theorem dX5_meanWorth_48 : decode cX5_meanWorth 48 = .ok (.goto (-43), 3) := by decide +kernel
theorem dX5_meanWorth_5 : decode cX5_meanWorth 5 = .ok (.iload 5, 2) := by decide +kernel
theorem dX5_meanWorth_51 : decode cX5_meanWorth 51 = .ok (.lload_n 3, 1) := by decide +kernel
theorem dX5_meanWorth_52 : decode cX5_meanWorth 52 = .ok (.lreturn, 1) := by decide +kernel
theorem dX5_meanWorth_7 : decode cX5_meanWorth 7 = .ok (.aload_n 0, 1) := by decide +kernel
theorem dX5_meanWorth_8 : decode cX5_meanWorth 8 = .ok (.getfield 11, 3) := by decide +kernel
def vX5_meanWorth : List Cond := .code yX5_meanWorth cX5_meanWorth 6 (some .long) :: ([.fieldLink RX5 11 "HookPier$Plan" "answers" "I", .fieldLink RX5 29 "HookPier$Plan" "kind" "[I", .fieldLink RX5 32 "HookPier$Plan" "told" "[I", .methodLink RX5 35 yX5_chance, .static yX5_chance, .initialized RX5, .code yX5_chance cX5_chance 9 (some .long), .constantLong RX5 9 (1000000000000), .fieldLink RX5 17 "HookPier$Now" "stage" "[I", .constantLong RX5 23 (100), .methodLink RX5 25 yX6_wishFor, .instanceMethod yX6_wishFor, .selects RX6 yX6_wishFor yX6_wishFor, .initialized RX6, .code yX6_wishFor cX6_wishFor 3 (some .int), .fieldLink RX6 52 "HookPier$Plan" "hunger" "[I", .methodLink RX6 94 yX6_wishBy, .instanceMethod yX6_wishBy, .selects RX6 yX6_wishBy yX6_wishBy, .code yX6_wishBy cX6_wishBy 5 (some .int), .code yX10_spotOf cX10_spotOf 1 (some .int), .initialized RX10, .static yX10_spotOf, .fieldLink RX6 46 "HookPier$Plan" "at" "[I", .methodLink RX6 89 Lib.Math.abs.name, .static Lib.Math.abs.name, .initialized "java/lang/Math", .code Lib.Math.abs.name Lib.Math.abs.code 1 (some .int), .fieldLink RX6 43 "HookPier$Plan" "kind" "[I", .fieldLink RX6 55 "HookPier$Plan" "likes" "[I", .code yX10_baitOf cX10_baitOf 1 (some .int), .static yX10_baitOf, .methodLink RX6 98 Lib.Math.min.name, .static Lib.Math.min.name, .code Lib.Math.min.name Lib.Math.min.code 2 (some .int), .methodLink RX6 102 Lib.Math.max.name, .static Lib.Math.max.name, .code Lib.Math.max.name Lib.Math.max.code 2 (some .int), .code yX10_fathomsOf cX10_fathomsOf 1 (some .int), .static yX10_fathomsOf, .fieldLink RX6 49 "HookPier$Plan" "depth" "[I"] ++ wsX60 ++ wsX40)
theorem iX5_meanWorth_X6 : ∀ w ∈ wsX60, w ∈ vX5_meanWorth := fun _ h => List.mem_cons_of_mem _ (List.mem_append_left _ (List.mem_append_right _ h))
theorem iX5_meanWorth_X4 : ∀ w ∈ wsX40, w ∈ vX5_meanWorth := fun _ h => List.mem_cons_of_mem _ (List.mem_append_right _ h)
set_option maxRecDepth 20000 in
theorem gX5_meanWorth_0 : GoodIn vX5_meanWorth (va_wsS RX5 35 yX5_chance vX5_chance) := goodIn_app (goodIn_r [.methodLink RX5 35 yX5_chance, .static yX5_chance, .initialized RX5] [4, 5, 6] (by decide +kernel) (by decide +kernel)) (goodIn_ca (goodIn_ca (goodIn_r (.code yX5_chance cX5_chance 9 (some .long) :: [.constantLong RX5 9 (1000000000000), .fieldLink RX5 11 "HookPier$Plan" "answers" "I", .fieldLink RX5 17 "HookPier$Now" "stage" "[I", .constantLong RX5 23 (100), .methodLink RX5 25 yX6_wishFor, .instanceMethod yX6_wishFor, .selects RX6 yX6_wishFor yX6_wishFor, .initialized RX6, .code yX6_wishFor cX6_wishFor 3 (some .int), .fieldLink RX6 52 "HookPier$Plan" "hunger" "[I", .methodLink RX6 94 yX6_wishBy, .instanceMethod yX6_wishBy, .selects RX6 yX6_wishBy yX6_wishBy, .code yX6_wishBy cX6_wishBy 5 (some .int), .code yX10_spotOf cX10_spotOf 1 (some .int), .initialized RX10, .static yX10_spotOf, .fieldLink RX6 46 "HookPier$Plan" "at" "[I", .methodLink RX6 89 Lib.Math.abs.name, .static Lib.Math.abs.name, .initialized "java/lang/Math", .code Lib.Math.abs.name Lib.Math.abs.code 1 (some .int), .fieldLink RX6 43 "HookPier$Plan" "kind" "[I", .fieldLink RX6 55 "HookPier$Plan" "likes" "[I", .code yX10_baitOf cX10_baitOf 1 (some .int), .static yX10_baitOf, .methodLink RX6 98 Lib.Math.min.name, .static Lib.Math.min.name, .code Lib.Math.min.name Lib.Math.min.code 2 (some .int), .methodLink RX6 102 Lib.Math.max.name, .static Lib.Math.max.name, .code Lib.Math.max.name Lib.Math.max.code 2 (some .int), .code yX10_fathomsOf cX10_fathomsOf 1 (some .int), .static yX10_fathomsOf, .fieldLink RX6 49 "HookPier$Plan" "depth" "[I"]) [7, 8, 1, 9, 10, 11, 12, 13, 14, 15, 16, 17, 18, 19, 20, 21, 22, 23, 24, 25, 26, 27, 28, 29, 30, 31, 32, 33, 34, 35, 36, 37, 38, 39, 40, 41] (by decide +kernel) (by decide +kernel) : GoodIn vX5_meanWorth (.code yX5_chance cX5_chance 9 (some .long) :: [.constantLong RX5 9 (1000000000000), .fieldLink RX5 11 "HookPier$Plan" "answers" "I", .fieldLink RX5 17 "HookPier$Now" "stage" "[I", .constantLong RX5 23 (100), .methodLink RX5 25 yX6_wishFor, .instanceMethod yX6_wishFor, .selects RX6 yX6_wishFor yX6_wishFor, .initialized RX6, .code yX6_wishFor cX6_wishFor 3 (some .int), .fieldLink RX6 52 "HookPier$Plan" "hunger" "[I", .methodLink RX6 94 yX6_wishBy, .instanceMethod yX6_wishBy, .selects RX6 yX6_wishBy yX6_wishBy, .code yX6_wishBy cX6_wishBy 5 (some .int), .code yX10_spotOf cX10_spotOf 1 (some .int), .initialized RX10, .static yX10_spotOf, .fieldLink RX6 46 "HookPier$Plan" "at" "[I", .methodLink RX6 89 Lib.Math.abs.name, .static Lib.Math.abs.name, .initialized "java/lang/Math", .code Lib.Math.abs.name Lib.Math.abs.code 1 (some .int), .fieldLink RX6 43 "HookPier$Plan" "kind" "[I", .fieldLink RX6 55 "HookPier$Plan" "likes" "[I", .code yX10_baitOf cX10_baitOf 1 (some .int), .static yX10_baitOf, .methodLink RX6 98 Lib.Math.min.name, .static Lib.Math.min.name, .code Lib.Math.min.name Lib.Math.min.code 2 (some .int), .methodLink RX6 102 Lib.Math.max.name, .static Lib.Math.max.name, .code Lib.Math.max.name Lib.Math.max.code 2 (some .int), .code yX10_fathomsOf cX10_fathomsOf 1 (some .int), .static yX10_fathomsOf, .fieldLink RX6 49 "HookPier$Plan" "depth" "[I"])) (goodIn_sub iX5_meanWorth_X6 (by decide +kernel))) (goodIn_sub iX5_meanWorth_X4 (by decide +kernel)))
set_option maxHeartbeats 2000000 in
set_option maxRecDepth 100000 in
theorem kX5_meanWorth (l : Launch) (dC : Nat → ClassId) (dI : Nat → Nat → Nat) (a0 : Nat) (a1 : Nat) (k2 : Int32) (a3 : Nat) (a4 : Nat) (a5 : Nat) (a6 : Nat) (a7 : Nat) (a8 : Nat) (a9 : Nat) (g10 : Value) (g11 : Value) (g12 : Value) (g13 : Value) (g14 : Value) (g15 : Value) (k16 : Int32) (g17 : Value) (g18 : Value) (g19 : Value) (g20 : Value) (g21 : Value) (g22 : Value) (g23 : Value) (g24 : Value) (g25 : Value) (g26 : Value) (g27 : Value) (cB28 : ClassId) (f29 : Nat → Int32) (cB30 : ClassId) (f31 : Nat → Int32) (cB32 : ClassId) (f33 : Nat → Int32) (cB34 : ClassId) (f35 : Nat → Int32) (cB36 : ClassId) (f37 : Nat → Int32) (cB38 : ClassId) (f39 : Nat → Int32) (cB40 : ClassId) (f41 : Nat → Int32) (hk16 : (0 ≤ k16.toInt ∧ k16.toInt ≤ 6)) (sz : Nat) : Met l yX5_meanWorth vX5_meanWorth ({ frames := 4, cells := 0, slots := 0, locals := 95 }) (PC (dC, dI) [.ref a0, .ref a1, .int k2] sz [(a0, .inr (4, [g10, g11, g12, g13, g14, g15, .int k16, g17, g18, g19, .ref a3, .ref a4, .ref a5, .ref a6, .ref a7, .ref a8, g20, g21])), (a1, .inr (3, [g22, g23, g24, .ref a9, g25, g26, g27])), (a3, .inl (cB28, 6, .inl f29)), (a4, .inl (cB30, 6, .inl f31)), (a5, .inl (cB32, 6, .inl f33)), (a6, .inl (cB34, 6, .inl f35)), (a7, .inl (cB36, 6, .inl f37)), (a8, .inl (cB38, 6, .inl f39)), (a9, .inl (cB40, 6, .inl f41))] [(cB28, .int), (cB30, .int), (cB32, .int), (cB34, .int), (cB36, .int), (cB38, .int), (cB40, .int)]) (va_Ql (S := Unit) (fun (r : Int64) _ => True) (fun _ t => BC (dC, dI) (va_A [(a0, .inr (4, [g10, g11, g12, g13, g14, g15, .int k16, g17, g18, g19, .ref a3, .ref a4, .ref a5, .ref a6, .ref a7, .ref a8, g20, g21])), (a1, .inr (3, [g22, g23, g24, .ref a9, g25, g26, g27])), (a3, .inl (cB28, 6, .inl f29)), (a4, .inl (cB30, 6, .inl f31)), (a5, .inl (cB32, 6, .inl f33)), (a6, .inl (cB34, 6, .inl f35)), (a7, .inl (cB36, 6, .inl f37)), (a8, .inl (cB38, 6, .inl f39)), (a9, .inl (cB40, 6, .inl f41))] sz) [(a0, .inr (4, [g10, g11, g12, g13, g14, g15, .int k16, g17, g18, g19, .ref a3, .ref a4, .ref a5, .ref a6, .ref a7, .ref a8, g20, g21])), (a1, .inr (3, [g22, g23, g24, .ref a9, g25, g26, g27])), (a3, .inl (cB28, 6, .inl f29)), (a4, .inl (cB30, 6, .inl f31)), (a5, .inl (cB32, 6, .inl f33)), (a6, .inl (cB34, 6, .inl f35)), (a7, .inl (cB36, 6, .inl f37)), (a8, .inl (cB38, 6, .inl f39)), (a9, .inl (cB40, 6, .inl f41))] [] t) (va_A [(a0, .inr (4, [g10, g11, g12, g13, g14, g15, .int k16, g17, g18, g19, .ref a3, .ref a4, .ref a5, .ref a6, .ref a7, .ref a8, g20, g21])), (a1, .inr (3, [g22, g23, g24, .ref a9, g25, g26, g27])), (a3, .inl (cB28, 6, .inl f29)), (a4, .inl (cB30, 6, .inl f31)), (a5, .inl (cB32, 6, .inl f33)), (a6, .inl (cB34, 6, .inl f35)), (a7, .inl (cB36, 6, .inl f37)), (a8, .inl (cB38, 6, .inl f39)), (a9, .inl (cB40, 6, .inl f41))] sz)) 0 0 (va_A [(a0, .inr (4, [g10, g11, g12, g13, g14, g15, .int k16, g17, g18, g19, .ref a3, .ref a4, .ref a5, .ref a6, .ref a7, .ref a8, g20, g21])), (a1, .inr (3, [g22, g23, g24, .ref a9, g25, g26, g27])), (a3, .inl (cB28, 6, .inl f29)), (a4, .inl (cB30, 6, .inl f31)), (a5, .inl (cB32, 6, .inl f33)), (a6, .inl (cB34, 6, .inl f35)), (a7, .inl (cB36, 6, .inl f37)), (a8, .inl (cB38, 6, .inl f39)), (a9, .inl (cB40, 6, .inl f41))] sz) := by
  refine Met.ofW (cc := cX5_meanWorth) (maxL := 6) (ret := (some .long)) (by decide) rfl ?_
  intro p e s m args below meth c s₁ B hml hv
  obtain ⟨rfl, hsz, hP, hK, hD0, hN⟩ := hv
  have hx := B.exec
  have hb := B.bytes
  have hr := B.returns
  have hts := atoms_spec (ws := vX5_meanWorth) B.pre
  have hown : s.vm.findClass RX5 = some m.cls := findClass_of_methodNamed B.named
  have hlocks := B.notSynchronized
  subst hsz
  have hD := hD0.self (sz := s.heap.size)
  generalize hAe : va_A [(a0, .inr (4, [g10, g11, g12, g13, g14, g15, .int k16, g17, g18, g19, .ref a3, .ref a4, .ref a5, .ref a6, .ref a7, .ref a8, g20, g21])), (a1, .inr (3, [g22, g23, g24, .ref a9, g25, g26, g27])), (a3, .inl (cB28, 6, .inl f29)), (a4, .inl (cB30, 6, .inl f31)), (a5, .inl (cB32, 6, .inl f33)), (a6, .inl (cB34, 6, .inl f35)), (a7, .inl (cB36, 6, .inl f37)), (a8, .inl (cB38, 6, .inl f39)), (a9, .inl (cB40, 6, .inl f41))] s.heap.size = A at hD ⊢
  have hA : ∀ q : Nat, s.heap.size ≤ q → A q := fun q h => by rw [← hAe]; exact Or.inr h
  have hS : va_S A s.heap s.heap [] := va_S.rf
  have hP : va_P (dC, dI) vwCl [(a0, .inr (4, [g10, g11, g12, g13, g14, g15, .int k16, g17, g18, g19, .ref a3, .ref a4, .ref a5, .ref a6, .ref a7, .ref a8, g20, g21])), (a1, .inr (3, [g22, g23, g24, .ref a9, g25, g26, g27])), (a3, .inl (cB28, 6, .inl f29)), (a4, .inl (cB30, 6, .inl f31)), (a5, .inl (cB32, 6, .inl f33)), (a6, .inl (cB34, 6, .inl f35)), (a7, .inl (cB36, 6, .inl f37)), (a8, .inl (cB38, 6, .inl f39)), (a9, .inl (cB40, 6, .inl f41))] s.heap := hP
  have hl := lv_entry ([.ref a0, .ref a1, .int k2]) (n := 6) (Nat.le_of_ble_eq_true rfl)
  rw [lg_entry_eq]
  generalize (lg_sl ([.ref a0, .ref a1, .int k2]) ++ List.replicate (6 - (lg_sl ([.ref a0, .ref a1, .int k2])).length) Slot.unset).toArray = ls at hl ⊢
  have hl : lv_has ls 6 [(0, .ref a0), (1, .ref a1), (2, .int k2)] := hl
  refine lv_lconst (v := 0) hx hb dX5_meanWorth_0 (by decide) ?_
  refine lv_lstore_n (lv' := [(3, .long 0), (0, .ref a0), (1, .ref a1), (2, .int k2)]) hx hb dX5_meanWorth_1 rfl hl (by decide) rfl (fun ls hl => ?_)
  refine lv_iconst (v := 0) hx hb dX5_meanWorth_2 (by decide) ?_
  refine lv_istore (lv' := [(5, .int 0), (3, .long 0), (0, .ref a0), (1, .ref a1), (2, .int k2)]) hx hb dX5_meanWorth_3 hl (by decide) rfl (fun ls hl => ?_)
  have L5_71 : ∀ (n : Nat) (z69 : Int32) (j70 : Int64) (H : Heap) (locs : List Loc) (ls : Array Slot), (0 ≤ z69.toInt ∧ z69.toInt ≤ 6) → 6 - z69.toInt < (n : Int) → va_P (dC, dI) vwCl [(a0, .inr (4, [g10, g11, g12, g13, g14, g15, .int k16, g17, g18, g19, .ref a3, .ref a4, .ref a5, .ref a6, .ref a7, .ref a8, g20, g21])), (a1, .inr (3, [g22, g23, g24, .ref a9, g25, g26, g27])), (a3, .inl (cB28, 6, .inl f29)), (a4, .inl (cB30, 6, .inl f31)), (a5, .inl (cB32, 6, .inl f33)), (a6, .inl (cB34, 6, .inl f35)), (a7, .inl (cB36, 6, .inl f37)), (a8, .inl (cB38, 6, .inl f39)), (a9, .inl (cB40, 6, .inl f41))] H → va_D A [(a0, .inr (4, [g10, g11, g12, g13, g14, g15, .int k16, g17, g18, g19, .ref a3, .ref a4, .ref a5, .ref a6, .ref a7, .ref a8, g20, g21])), (a1, .inr (3, [g22, g23, g24, .ref a9, g25, g26, g27])), (a3, .inl (cB28, 6, .inl f29)), (a4, .inl (cB30, 6, .inl f31)), (a5, .inl (cB32, 6, .inl f33)), (a6, .inl (cB34, 6, .inl f35)), (a7, .inl (cB36, 6, .inl f37)), (a8, .inl (cB38, 6, .inl f39)), (a9, .inl (cB40, 6, .inl f41))] → va_S A s.heap H locs → lv_has ls 6 [(5, .int z69), (3, .long j70), (0, .ref a0), (1, .ref a1), (2, .int k2)] → W p l e (headSpec vX5_meanWorth { frames := 4, cells := 0, slots := 0, locals := 95 }).room s m ([.ref a0, .ref a1, .int k2]).toArray below meth c H locs 0 0 (MQ below (va_Ql (S := Unit) (fun (r : Int64) _ => True) (fun _ t => BC (dC, dI) A [(a0, .inr (4, [g10, g11, g12, g13, g14, g15, .int k16, g17, g18, g19, .ref a3, .ref a4, .ref a5, .ref a6, .ref a7, .ref a8, g20, g21])), (a1, .inr (3, [g22, g23, g24, .ref a9, g25, g26, g27])), (a3, .inl (cB28, 6, .inl f29)), (a4, .inl (cB30, 6, .inl f31)), (a5, .inl (cB32, 6, .inl f33)), (a6, .inl (cB34, 6, .inl f35)), (a7, .inl (cB36, 6, .inl f37)), (a8, .inl (cB38, 6, .inl f39)), (a9, .inl (cB40, 6, .inl f41))] [] t) A) ([.ref a0, .ref a1, .int k2]).toArray s 0 0 A) (F0 m 5 ls []) := by
    intro n
    induction n with
    | zero =>
      intro z69 j70 H locs ls b5_0 hm _ _ _ _
      exact absurd hm (by omega)
    | succ n ih5 =>
      intro z69 j70 H locs ls b5_0 hm5 hP hD hS hl
      refine lv_iload hx hb dX5_meanWorth_5 (lv_at hl 0 rfl) ?_
      refine lv_aload_n hx hb dX5_meanWorth_7 rfl (lv_at hl 2 rfl) ?_
      refine va_get (D := (dC, dI)) (ci := 4) (v := .int k16) (C := RX6) (T := TX6) (N := 18) hx hb hts iX5_meanWorth_X6 hown hK hP 0 rfl rfl 6 (by decide) (hts (.fieldLink RX5 11 "HookPier$Plan" "answers" "I") (List.mem_of_getElem? (i := 1) rfl)) (fun _ h9 => h9) rfl dX5_meanWorth_8 ?_
      refine lv_icmp_ge (tgt := 51) hx hb dX5_meanWorth_11 (by decide) (fun c72 => ?_) (fun c72 => ?_)
      · simp only [fa_lt, fa_le, fa_eq, ltv_0] at c72
        refine lv_lload_n hx hb dX5_meanWorth_51 rfl (lv_at hl 1 rfl) ?_
        have hP9 := hP.sub (ws' := [(a0, .inr (4, [g10, g11, g12, g13, g14, g15, .int k16, g17, g18, g19, .ref a3, .ref a4, .ref a5, .ref a6, .ref a7, .ref a8, g20, g21])), (a1, .inr (3, [g22, g23, g24, .ref a9, g25, g26, g27])), (a3, .inl (cB28, 6, .inl f29)), (a4, .inl (cB30, 6, .inl f31)), (a5, .inl (cB32, 6, .inl f33)), (a6, .inl (cB34, 6, .inl f35)), (a7, .inl (cB36, 6, .inl f37)), (a8, .inl (cB38, 6, .inl f39)), (a9, .inl (cB40, 6, .inl f41))]) [0, 1, 2, 3, 4, 5, 6, 7, 8] rfl
        have hD9 := hD.sub (ws' := [(a0, .inr (4, [g10, g11, g12, g13, g14, g15, .int k16, g17, g18, g19, .ref a3, .ref a4, .ref a5, .ref a6, .ref a7, .ref a8, g20, g21])), (a1, .inr (3, [g22, g23, g24, .ref a9, g25, g26, g27])), (a3, .inl (cB28, 6, .inl f29)), (a4, .inl (cB30, 6, .inl f31)), (a5, .inl (cB32, 6, .inl f33)), (a6, .inl (cB34, 6, .inl f35)), (a7, .inl (cB36, 6, .inl f37)), (a8, .inl (cB38, 6, .inl f39)), (a9, .inl (cB40, 6, .inl f41))]) [0, 1, 2, 3, 4, 5, 6, 7, 8] (by decide) rfl
        have hK9 := hK.sub (tys' := []) [] rfl
        exact W.lret (v := j70) hx hb hr (fun t ht hW => ⟨⟨j70, (), rfl, trivial, by rw [ht]; exact hP9, va_K.moved hW.alike hK9, hD9⟩, hS.F ht⟩) hS.2.2 dX5_meanWorth_52
      · simp only [fa_lt, fa_le, fa_eq, ltv_0] at c72
        refine lv_aload_n hx hb dX5_meanWorth_14 rfl (lv_at hl 2 rfl) ?_
        refine va_get (D := (dC, dI)) (ci := 4) (v := .ref a3) (C := RX6) (T := TX6) (N := 18) hx hb hts iX5_meanWorth_X6 hown hK hP 0 rfl rfl 10 (by decide) (hts (.fieldLink RX5 29 "HookPier$Plan" "kind" "[I") (List.mem_of_getElem? (i := 2) rfl)) (fun _ h9 => h9) rfl dX5_meanWorth_15 ?_
        refine lv_iload hx hb dX5_meanWorth_18 (lv_at hl 0 rfl) ?_
        refine va_iald hx hb hK hP 2 0 rfl rfl (vp_in_iff.mpr (by omega)) dX5_meanWorth_20 ?_
        refine lv_topi (fun z73 ez73 => ?_)
        clear ez73
        refine lv_iconst (v := 2) hx hb dX5_meanWorth_21 (by decide) ?_
        refine lv_icmp_eq (tgt := 45) hx hb dX5_meanWorth_22 (by decide) (fun c74 => ?_) (fun c74 => ?_)
        · simp only [fa_lt, fa_le, fa_eq, ltv_0, ltv_2] at c74
          obtain ⟨z75, ez75⟩ : ∃ y : Int32, y = z69 + 1 := ⟨_, rfl⟩
          have tz75 : z75.toInt = z69.toInt + 1 := by rw [ez75, iadd_t (by simp only [ltv_1]; omega) (by simp only [ltv_1]; omega)]; simp only [ltv_1]
          refine lv_iinc (v := z75) (lv' := [(5, .int z75), (3, .long j70), (0, .ref a0), (1, .ref a1), (2, .int k2)]) hx hb dX5_meanWorth_45 hl (k := 0) rfl (by rw [ez75]; rfl) (by decide) rfl (fun ls hl => ?_)
          refine lv_goto (tgt := 5) hx hb dX5_meanWorth_48 (by decide) ?_
          exact ih5 z75 j70 H locs ls (by first | omega | (simp only [ltv_0]; omega)) (by first | omega | (simp only [ltv_0]; omega)) hP hD hS (lv_sub hl [0, 1, 2, 3, 4] rfl)
        · simp only [fa_lt, fa_le, fa_eq, ltv_0, ltv_2] at c74
          refine lv_lload_n hx hb dX5_meanWorth_25 rfl (lv_at hl 1 rfl) ?_
          refine lv_aload_n hx hb dX5_meanWorth_26 rfl (lv_at hl 2 rfl) ?_
          refine va_get (D := (dC, dI)) (ci := 4) (v := .ref a8) (C := RX6) (T := TX6) (N := 18) hx hb hts iX5_meanWorth_X6 hown hK hP 0 rfl rfl 15 (by decide) (hts (.fieldLink RX5 32 "HookPier$Plan" "told" "[I") (List.mem_of_getElem? (i := 3) rfl)) (fun _ h9 => h9) rfl dX5_meanWorth_27 ?_
          refine lv_iload hx hb dX5_meanWorth_30 (lv_at hl 0 rfl) ?_
          refine va_iald hx hb hK hP 7 5 rfl rfl (vp_in_iff.mpr (by omega)) dX5_meanWorth_32 ?_
          refine lv_topi (fun z76 ez76 => ?_)
          clear ez76
          refine lv_i2l hx hb dX5_meanWorth_33 rfl ?_
          refine lv_topl (fun z77 ez77 => ?_)
          clear ez77
          refine lv_aload_n hx hb dX5_meanWorth_34 rfl (lv_at hl 2 rfl) ?_
          refine lv_aload_n hx hb dX5_meanWorth_35 rfl (lv_at hl 3 rfl) ?_
          refine lv_iload hx hb dX5_meanWorth_36 (lv_at hl 0 rfl) ?_
          refine lv_iload_n hx hb dX5_meanWorth_38 rfl (lv_at hl 4 rfl) ?_
          refine cl_l (wc := [(a0, .inr (4, [g10, g11, g12, g13, g14, g15, .int k16, g17, g18, g19, .ref a3, .ref a4, .ref a5, .ref a6, .ref a7, .ref a8, g20, g21])), (a1, .inr (3, [g22, g23, g24, .ref a9, g25, g26, g27])), (a3, .inl (cB28, 6, .inl f29)), (a4, .inl (cB30, 6, .inl f31)), (a5, .inl (cB32, 6, .inl f33)), (a6, .inl (cB34, 6, .inl f35)), (a7, .inl (cB36, 6, .inl f37)), (a9, .inl (cB40, 6, .inl f41))]) (wr := [(a8, .inl (cB38, 6, .inl f39))]) (va_runS (As := [.ref a0, .ref a1, .int z69, .int k2]) (rest := [.long z77, .long j70]) ⟨hx, hb, hml, hown, hts⟩ (kX5_chance l dC dI a0 a1 z69 k2 a3 a4 a5 a6 a7 a9 (g10) (g11) (g12) (g13) (g14) (g15) k16 (g17) (g18) (g19) (.ref a8) (g20) (g21) (g22) (g23) (g24) (g25) (g26) (g27) cB28 f29 cB30 f31 cB32 f33 cB34 f35 cB36 f37 cB40 f41 (by first | omega | (simp only [ltv_0]; omega)) H.size) (va_cwS 4 hts gX5_meanWorth_0 rfl rfl rfl (by decide +kernel) ⟨Nat.le_of_ble_eq_true rfl, Nat.le_of_ble_eq_true rfl⟩) (PS (hP.sub (ws' := [(a0, .inr (4, [g10, g11, g12, g13, g14, g15, .int k16, g17, g18, g19, .ref a3, .ref a4, .ref a5, .ref a6, .ref a7, .ref a8, g20, g21])), (a1, .inr (3, [g22, g23, g24, .ref a9, g25, g26, g27])), (a3, .inl (cB28, 6, .inl f29)), (a4, .inl (cB30, 6, .inl f31)), (a5, .inl (cB32, 6, .inl f33)), (a6, .inl (cB34, 6, .inl f35)), (a7, .inl (cB36, 6, .inl f37)), (a9, .inl (cB40, 6, .inl f41))]) [0, 1, 2, 3, 4, 5, 6, 8] rfl) (hK.sub (tys' := [(cB28, .int), (cB30, .int), (cB32, .int), (cB34, .int), (cB36, .int), (cB40, .int)]) [0, 1, 2, 3, 4, 6] rfl) (hD.sub (ws' := [(a0, .inr (4, [g10, g11, g12, g13, g14, g15, .int k16, g17, g18, g19, .ref a3, .ref a4, .ref a5, .ref a6, .ref a7, .ref a8, g20, g21])), (a1, .inr (3, [g22, g23, g24, .ref a9, g25, g26, g27])), (a3, .inl (cB28, 6, .inl f29)), (a4, .inl (cB30, 6, .inl f31)), (a5, .inl (cB32, 6, .inl f33)), (a6, .inl (cB34, 6, .inl f35)), (a7, .inl (cB36, 6, .inl f37)), (a9, .inl (cB40, 6, .inl f41))]) [0, 1, 2, 3, 4, 5, 6, 8] (by decide) rfl) hN) rfl rfl hl.1 rfl (lv_room (Nat.le_of_ble_eq_true rfl)) dX5_meanWorth_39 ⟨Nat.le_of_ble_eq_true rfl, Nat.le_of_ble_eq_true rfl⟩) hP hD hK hS hA [0, 1, 2, 3, 4, 5, 6, 8] [7] rfl rfl (by decide) (by decide) (fun z78 _u H locs hw hP hD hK hS => ?_)
          have b79 := hw
          have hP : va_P (dC, dI) vwCl [(a8, .inl (cB38, 6, .inl f39)), (a0, .inr (4, [g10, g11, g12, g13, g14, g15, .int k16, g17, g18, g19, .ref a3, .ref a4, .ref a5, .ref a6, .ref a7, .ref a8, g20, g21])), (a1, .inr (3, [g22, g23, g24, .ref a9, g25, g26, g27])), (a3, .inl (cB28, 6, .inl f29)), (a4, .inl (cB30, 6, .inl f31)), (a5, .inl (cB32, 6, .inl f33)), (a6, .inl (cB34, 6, .inl f35)), (a7, .inl (cB36, 6, .inl f37)), (a9, .inl (cB40, 6, .inl f41))] H := hP
          have hD : va_D A [(a8, .inl (cB38, 6, .inl f39)), (a0, .inr (4, [g10, g11, g12, g13, g14, g15, .int k16, g17, g18, g19, .ref a3, .ref a4, .ref a5, .ref a6, .ref a7, .ref a8, g20, g21])), (a1, .inr (3, [g22, g23, g24, .ref a9, g25, g26, g27])), (a3, .inl (cB28, 6, .inl f29)), (a4, .inl (cB30, 6, .inl f31)), (a5, .inl (cB32, 6, .inl f33)), (a6, .inl (cB34, 6, .inl f35)), (a7, .inl (cB36, 6, .inl f37)), (a9, .inl (cB40, 6, .inl f41))] := hD
          have hK : va_K (dC, dI) vwCl [(cB28, .int), (cB30, .int), (cB32, .int), (cB34, .int), (cB36, .int), (cB38, .int), (cB40, .int)] s := hK
          refine lv_lmul hx hb dX5_meanWorth_42 ?_
          refine lv_topl (fun z80 ez80 => ?_)
          clear ez80
          refine lv_ladd hx hb dX5_meanWorth_43 ?_
          refine lv_topl (fun z81 ez81 => ?_)
          clear ez81
          refine lv_lstore_n (lv' := [(3, .long z81), (5, .int z69), (0, .ref a0), (1, .ref a1), (2, .int k2)]) hx hb dX5_meanWorth_44 rfl hl (by decide) rfl (fun ls hl => ?_)
          obtain ⟨z82, ez82⟩ : ∃ y : Int32, y = z69 + 1 := ⟨_, rfl⟩
          have tz82 : z82.toInt = z69.toInt + 1 := by rw [ez82, iadd_t (by simp only [ltv_1]; omega) (by simp only [ltv_1]; omega)]; simp only [ltv_1]
          refine lv_iinc (v := z82) (lv' := [(5, .int z82), (3, .long z81), (0, .ref a0), (1, .ref a1), (2, .int k2)]) hx hb dX5_meanWorth_45 hl (k := 1) rfl (by rw [ez82]; rfl) (by decide) rfl (fun ls hl => ?_)
          refine lv_goto (tgt := 5) hx hb dX5_meanWorth_48 (by decide) ?_
          exact ih5 z82 z81 H locs ls (by first | omega | (simp only [ltv_0]; omega)) (by first | omega | (simp only [ltv_0]; omega)) (hP.sub (ws' := [(a0, .inr (4, [g10, g11, g12, g13, g14, g15, .int k16, g17, g18, g19, .ref a3, .ref a4, .ref a5, .ref a6, .ref a7, .ref a8, g20, g21])), (a1, .inr (3, [g22, g23, g24, .ref a9, g25, g26, g27])), (a3, .inl (cB28, 6, .inl f29)), (a4, .inl (cB30, 6, .inl f31)), (a5, .inl (cB32, 6, .inl f33)), (a6, .inl (cB34, 6, .inl f35)), (a7, .inl (cB36, 6, .inl f37)), (a8, .inl (cB38, 6, .inl f39)), (a9, .inl (cB40, 6, .inl f41))]) [1, 2, 3, 4, 5, 6, 7, 0, 8] rfl) (hD.sub (ws' := [(a0, .inr (4, [g10, g11, g12, g13, g14, g15, .int k16, g17, g18, g19, .ref a3, .ref a4, .ref a5, .ref a6, .ref a7, .ref a8, g20, g21])), (a1, .inr (3, [g22, g23, g24, .ref a9, g25, g26, g27])), (a3, .inl (cB28, 6, .inl f29)), (a4, .inl (cB30, 6, .inl f31)), (a5, .inl (cB32, 6, .inl f33)), (a6, .inl (cB34, 6, .inl f35)), (a7, .inl (cB36, 6, .inl f37)), (a8, .inl (cB38, 6, .inl f39)), (a9, .inl (cB40, 6, .inl f41))]) [1, 2, 3, 4, 5, 6, 7, 0, 8] (by decide) rfl) hS (lv_sub hl [0, 1, 2, 3, 4] rfl)
  exact L5_71 7 (0) (0) s.heap _ ls (by first | omega | (simp only [ltv_0]; omega)) (by first | omega | (simp only [ltv_0]; omega)) hP hD hS (lv_sub hl [0, 1, 2, 3, 4] rfl)
theorem dX5_likeliestTaker_0 : decode cX5_likeliestTaker 0 = .ok (.bipush (-2), 2) := by decide +kernel
theorem dX5_likeliestTaker_11 : decode cX5_likeliestTaker 11 = .ok (.aload_n 0, 1) := by decide +kernel
theorem dX5_likeliestTaker_12 : decode cX5_likeliestTaker 12 = .ok (.getfield 11, 3) := by decide +kernel
theorem dX5_likeliestTaker_15 : decode cX5_likeliestTaker 15 = .ok (.if_icmp .ge 34, 3) := by decide +kernel
theorem dX5_likeliestTaker_18 : decode cX5_likeliestTaker 18 = .ok (.aload_n 0, 1) := by decide +kernel
theorem dX5_likeliestTaker_19 : decode cX5_likeliestTaker 19 = .ok (.aload_n 1, 1) := by decide +kernel
theorem dX5_likeliestTaker_2 : decode cX5_likeliestTaker 2 = .ok (.istore_n 3, 1) := by decide +kernel
theorem dX5_likeliestTaker_20 : decode cX5_likeliestTaker 20 = .ok (.iload 6, 2) := by decide +kernel
theorem dX5_likeliestTaker_22 : decode cX5_likeliestTaker 22 = .ok (.iload_n 2, 1) := by decide +kernel
theorem dX5_likeliestTaker_23 : decode cX5_likeliestTaker 23 = .ok (.invokestatic 35, 3) := by decide +kernel
theorem dX5_likeliestTaker_26 : decode cX5_likeliestTaker 26 = .ok (.lstore 7, 2) := by decide +kernel
theorem dX5_likeliestTaker_28 : decode cX5_likeliestTaker 28 = .ok (.lload 7, 2) := by decide +kernel
theorem dX5_likeliestTaker_3 : decode cX5_likeliestTaker 3 = .ok (.lconst 0, 1) := by decide +kernel
theorem dX5_likeliestTaker_30 : decode cX5_likeliestTaker 30 = .ok (.lload 4, 2) := by decide +kernel
theorem dX5_likeliestTaker_32 : decode cX5_likeliestTaker 32 = .ok (.lcmp, 1) := by decide +kernel
theorem dX5_likeliestTaker_33 : decode cX5_likeliestTaker 33 = .ok (.ifCond .le 10, 3) := by decide +kernel
theorem dX5_likeliestTaker_36 : decode cX5_likeliestTaker 36 = .ok (.lload 7, 2) := by decide +kernel
theorem dX5_likeliestTaker_38 : decode cX5_likeliestTaker 38 = .ok (.lstore 4, 2) := by decide +kernel
theorem dX5_likeliestTaker_4 : decode cX5_likeliestTaker 4 = .ok (.lstore 4, 2) := by decide +kernel
theorem dX5_likeliestTaker_40 : decode cX5_likeliestTaker 40 = .ok (.iload 6, 2) := by decide +kernel
theorem dX5_likeliestTaker_42 : decode cX5_likeliestTaker 42 = .ok (.istore_n 3, 1) := by decide +kernel
theorem dX5_likeliestTaker_43 : decode cX5_likeliestTaker 43 = .ok (.iinc 6 1, 3) := by decide +kernel
theorem dX5_likeliestTaker_46 : decode cX5_likeliestTaker 46 = .ok (.goto (-37), 3) := by decide +kernel
theorem dX5_likeliestTaker_49 : decode cX5_likeliestTaker 49 = .ok (.iload_n 3, 1) := by decide +kernel
theorem dX5_likeliestTaker_50 : decode cX5_likeliestTaker 50 = .ok (.ireturn, 1) := by decide +kernel
theorem dX5_likeliestTaker_6 : decode cX5_likeliestTaker 6 = .ok (.iconst 0, 1) := by decide +kernel
theorem dX5_likeliestTaker_7 : decode cX5_likeliestTaker 7 = .ok (.istore 6, 2) := by decide +kernel
theorem dX5_likeliestTaker_9 : decode cX5_likeliestTaker 9 = .ok (.iload 6, 2) := by decide +kernel
def vX5_likeliestTaker : List Cond := .code yX5_likeliestTaker cX5_likeliestTaker 9 (some .int) :: ([.fieldLink RX5 11 "HookPier$Plan" "answers" "I", .methodLink RX5 35 yX5_chance, .static yX5_chance, .initialized RX5, .code yX5_chance cX5_chance 9 (some .long), .constantLong RX5 9 (1000000000000), .fieldLink RX5 17 "HookPier$Now" "stage" "[I", .constantLong RX5 23 (100), .methodLink RX5 25 yX6_wishFor, .instanceMethod yX6_wishFor, .selects RX6 yX6_wishFor yX6_wishFor, .initialized RX6, .code yX6_wishFor cX6_wishFor 3 (some .int), .fieldLink RX6 52 "HookPier$Plan" "hunger" "[I", .methodLink RX6 94 yX6_wishBy, .instanceMethod yX6_wishBy, .selects RX6 yX6_wishBy yX6_wishBy, .code yX6_wishBy cX6_wishBy 5 (some .int), .code yX10_spotOf cX10_spotOf 1 (some .int), .initialized RX10, .static yX10_spotOf, .fieldLink RX6 46 "HookPier$Plan" "at" "[I", .methodLink RX6 89 Lib.Math.abs.name, .static Lib.Math.abs.name, .initialized "java/lang/Math", .code Lib.Math.abs.name Lib.Math.abs.code 1 (some .int), .fieldLink RX6 43 "HookPier$Plan" "kind" "[I", .fieldLink RX6 55 "HookPier$Plan" "likes" "[I", .code yX10_baitOf cX10_baitOf 1 (some .int), .static yX10_baitOf, .methodLink RX6 98 Lib.Math.min.name, .static Lib.Math.min.name, .code Lib.Math.min.name Lib.Math.min.code 2 (some .int), .methodLink RX6 102 Lib.Math.max.name, .static Lib.Math.max.name, .code Lib.Math.max.name Lib.Math.max.code 2 (some .int), .code yX10_fathomsOf cX10_fathomsOf 1 (some .int), .static yX10_fathomsOf, .fieldLink RX6 49 "HookPier$Plan" "depth" "[I"] ++ wsX60 ++ wsX40)
theorem iX5_likeliestTaker_X6 : ∀ w ∈ wsX60, w ∈ vX5_likeliestTaker := fun _ h => List.mem_cons_of_mem _ (List.mem_append_left _ (List.mem_append_right _ h))
theorem iX5_likeliestTaker_X4 : ∀ w ∈ wsX40, w ∈ vX5_likeliestTaker := fun _ h => List.mem_cons_of_mem _ (List.mem_append_right _ h)
set_option maxRecDepth 20000 in
theorem gX5_likeliestTaker_0 : GoodIn vX5_likeliestTaker (va_wsS RX5 35 yX5_chance vX5_chance) := goodIn_app (goodIn_r [.methodLink RX5 35 yX5_chance, .static yX5_chance, .initialized RX5] [2, 3, 4] (by decide +kernel) (by decide +kernel)) (goodIn_ca (goodIn_ca (goodIn_r (.code yX5_chance cX5_chance 9 (some .long) :: [.constantLong RX5 9 (1000000000000), .fieldLink RX5 11 "HookPier$Plan" "answers" "I", .fieldLink RX5 17 "HookPier$Now" "stage" "[I", .constantLong RX5 23 (100), .methodLink RX5 25 yX6_wishFor, .instanceMethod yX6_wishFor, .selects RX6 yX6_wishFor yX6_wishFor, .initialized RX6, .code yX6_wishFor cX6_wishFor 3 (some .int), .fieldLink RX6 52 "HookPier$Plan" "hunger" "[I", .methodLink RX6 94 yX6_wishBy, .instanceMethod yX6_wishBy, .selects RX6 yX6_wishBy yX6_wishBy, .code yX6_wishBy cX6_wishBy 5 (some .int), .code yX10_spotOf cX10_spotOf 1 (some .int), .initialized RX10, .static yX10_spotOf, .fieldLink RX6 46 "HookPier$Plan" "at" "[I", .methodLink RX6 89 Lib.Math.abs.name, .static Lib.Math.abs.name, .initialized "java/lang/Math", .code Lib.Math.abs.name Lib.Math.abs.code 1 (some .int), .fieldLink RX6 43 "HookPier$Plan" "kind" "[I", .fieldLink RX6 55 "HookPier$Plan" "likes" "[I", .code yX10_baitOf cX10_baitOf 1 (some .int), .static yX10_baitOf, .methodLink RX6 98 Lib.Math.min.name, .static Lib.Math.min.name, .code Lib.Math.min.name Lib.Math.min.code 2 (some .int), .methodLink RX6 102 Lib.Math.max.name, .static Lib.Math.max.name, .code Lib.Math.max.name Lib.Math.max.code 2 (some .int), .code yX10_fathomsOf cX10_fathomsOf 1 (some .int), .static yX10_fathomsOf, .fieldLink RX6 49 "HookPier$Plan" "depth" "[I"]) [5, 6, 1, 7, 8, 9, 10, 11, 12, 13, 14, 15, 16, 17, 18, 19, 20, 21, 22, 23, 24, 25, 26, 27, 28, 29, 30, 31, 32, 33, 34, 35, 36, 37, 38, 39] (by decide +kernel) (by decide +kernel) : GoodIn vX5_likeliestTaker (.code yX5_chance cX5_chance 9 (some .long) :: [.constantLong RX5 9 (1000000000000), .fieldLink RX5 11 "HookPier$Plan" "answers" "I", .fieldLink RX5 17 "HookPier$Now" "stage" "[I", .constantLong RX5 23 (100), .methodLink RX5 25 yX6_wishFor, .instanceMethod yX6_wishFor, .selects RX6 yX6_wishFor yX6_wishFor, .initialized RX6, .code yX6_wishFor cX6_wishFor 3 (some .int), .fieldLink RX6 52 "HookPier$Plan" "hunger" "[I", .methodLink RX6 94 yX6_wishBy, .instanceMethod yX6_wishBy, .selects RX6 yX6_wishBy yX6_wishBy, .code yX6_wishBy cX6_wishBy 5 (some .int), .code yX10_spotOf cX10_spotOf 1 (some .int), .initialized RX10, .static yX10_spotOf, .fieldLink RX6 46 "HookPier$Plan" "at" "[I", .methodLink RX6 89 Lib.Math.abs.name, .static Lib.Math.abs.name, .initialized "java/lang/Math", .code Lib.Math.abs.name Lib.Math.abs.code 1 (some .int), .fieldLink RX6 43 "HookPier$Plan" "kind" "[I", .fieldLink RX6 55 "HookPier$Plan" "likes" "[I", .code yX10_baitOf cX10_baitOf 1 (some .int), .static yX10_baitOf, .methodLink RX6 98 Lib.Math.min.name, .static Lib.Math.min.name, .code Lib.Math.min.name Lib.Math.min.code 2 (some .int), .methodLink RX6 102 Lib.Math.max.name, .static Lib.Math.max.name, .code Lib.Math.max.name Lib.Math.max.code 2 (some .int), .code yX10_fathomsOf cX10_fathomsOf 1 (some .int), .static yX10_fathomsOf, .fieldLink RX6 49 "HookPier$Plan" "depth" "[I"])) (goodIn_sub iX5_likeliestTaker_X6 (by decide +kernel))) (goodIn_sub iX5_likeliestTaker_X4 (by decide +kernel)))
set_option maxHeartbeats 2000000 in
set_option maxRecDepth 100000 in
theorem kX5_likeliestTaker (l : Launch) (dC : Nat → ClassId) (dI : Nat → Nat → Nat) (a0 : Nat) (a1 : Nat) (k2 : Int32) (a3 : Nat) (a4 : Nat) (a5 : Nat) (a6 : Nat) (a7 : Nat) (a8 : Nat) (g9 : Value) (g10 : Value) (g11 : Value) (g12 : Value) (g13 : Value) (g14 : Value) (k15 : Int32) (g16 : Value) (g17 : Value) (g18 : Value) (g19 : Value) (g20 : Value) (g21 : Value) (g22 : Value) (g23 : Value) (g24 : Value) (g25 : Value) (g26 : Value) (g27 : Value) (cB28 : ClassId) (f29 : Nat → Int32) (cB30 : ClassId) (f31 : Nat → Int32) (cB32 : ClassId) (f33 : Nat → Int32) (cB34 : ClassId) (f35 : Nat → Int32) (cB36 : ClassId) (f37 : Nat → Int32) (cB38 : ClassId) (f39 : Nat → Int32) (hk15 : (0 ≤ k15.toInt ∧ k15.toInt ≤ 6)) (sz : Nat) : Met l yX5_likeliestTaker vX5_likeliestTaker ({ frames := 4, cells := 0, slots := 0, locals := 95 }) (PC (dC, dI) [.ref a0, .ref a1, .int k2] sz [(a0, .inr (4, [g9, g10, g11, g12, g13, g14, .int k15, g16, g17, g18, .ref a3, .ref a4, .ref a5, .ref a6, .ref a7, g19, g20, g21])), (a1, .inr (3, [g22, g23, g24, .ref a8, g25, g26, g27])), (a3, .inl (cB28, 6, .inl f29)), (a4, .inl (cB30, 6, .inl f31)), (a5, .inl (cB32, 6, .inl f33)), (a6, .inl (cB34, 6, .inl f35)), (a7, .inl (cB36, 6, .inl f37)), (a8, .inl (cB38, 6, .inl f39))] [(cB28, .int), (cB30, .int), (cB32, .int), (cB34, .int), (cB36, .int), (cB38, .int)]) (va_Qi (S := Unit) (fun (r : Int32) _ => ((-2) ≤ r.toInt ∧ r.toInt ≤ 5)) (fun _ t => BC (dC, dI) (va_A [(a0, .inr (4, [g9, g10, g11, g12, g13, g14, .int k15, g16, g17, g18, .ref a3, .ref a4, .ref a5, .ref a6, .ref a7, g19, g20, g21])), (a1, .inr (3, [g22, g23, g24, .ref a8, g25, g26, g27])), (a3, .inl (cB28, 6, .inl f29)), (a4, .inl (cB30, 6, .inl f31)), (a5, .inl (cB32, 6, .inl f33)), (a6, .inl (cB34, 6, .inl f35)), (a7, .inl (cB36, 6, .inl f37)), (a8, .inl (cB38, 6, .inl f39))] sz) [(a0, .inr (4, [g9, g10, g11, g12, g13, g14, .int k15, g16, g17, g18, .ref a3, .ref a4, .ref a5, .ref a6, .ref a7, g19, g20, g21])), (a1, .inr (3, [g22, g23, g24, .ref a8, g25, g26, g27])), (a3, .inl (cB28, 6, .inl f29)), (a4, .inl (cB30, 6, .inl f31)), (a5, .inl (cB32, 6, .inl f33)), (a6, .inl (cB34, 6, .inl f35)), (a7, .inl (cB36, 6, .inl f37)), (a8, .inl (cB38, 6, .inl f39))] [] t) (va_A [(a0, .inr (4, [g9, g10, g11, g12, g13, g14, .int k15, g16, g17, g18, .ref a3, .ref a4, .ref a5, .ref a6, .ref a7, g19, g20, g21])), (a1, .inr (3, [g22, g23, g24, .ref a8, g25, g26, g27])), (a3, .inl (cB28, 6, .inl f29)), (a4, .inl (cB30, 6, .inl f31)), (a5, .inl (cB32, 6, .inl f33)), (a6, .inl (cB34, 6, .inl f35)), (a7, .inl (cB36, 6, .inl f37)), (a8, .inl (cB38, 6, .inl f39))] sz)) 0 0 (va_A [(a0, .inr (4, [g9, g10, g11, g12, g13, g14, .int k15, g16, g17, g18, .ref a3, .ref a4, .ref a5, .ref a6, .ref a7, g19, g20, g21])), (a1, .inr (3, [g22, g23, g24, .ref a8, g25, g26, g27])), (a3, .inl (cB28, 6, .inl f29)), (a4, .inl (cB30, 6, .inl f31)), (a5, .inl (cB32, 6, .inl f33)), (a6, .inl (cB34, 6, .inl f35)), (a7, .inl (cB36, 6, .inl f37)), (a8, .inl (cB38, 6, .inl f39))] sz) := by
  refine Met.ofW (cc := cX5_likeliestTaker) (maxL := 9) (ret := (some .int)) (by decide) rfl ?_
  intro p e s m args below meth c s₁ B hml hv
  obtain ⟨rfl, hsz, hP, hK, hD0, hN⟩ := hv
  have hx := B.exec
  have hb := B.bytes
  have hr := B.returns
  have hts := atoms_spec (ws := vX5_likeliestTaker) B.pre
  have hown : s.vm.findClass RX5 = some m.cls := findClass_of_methodNamed B.named
  have hlocks := B.notSynchronized
  subst hsz
  have hD := hD0.self (sz := s.heap.size)
  generalize hAe : va_A [(a0, .inr (4, [g9, g10, g11, g12, g13, g14, .int k15, g16, g17, g18, .ref a3, .ref a4, .ref a5, .ref a6, .ref a7, g19, g20, g21])), (a1, .inr (3, [g22, g23, g24, .ref a8, g25, g26, g27])), (a3, .inl (cB28, 6, .inl f29)), (a4, .inl (cB30, 6, .inl f31)), (a5, .inl (cB32, 6, .inl f33)), (a6, .inl (cB34, 6, .inl f35)), (a7, .inl (cB36, 6, .inl f37)), (a8, .inl (cB38, 6, .inl f39))] s.heap.size = A at hD ⊢
  have hA : ∀ q : Nat, s.heap.size ≤ q → A q := fun q h => by rw [← hAe]; exact Or.inr h
  have hS : va_S A s.heap s.heap [] := va_S.rf
  have hP : va_P (dC, dI) vwCl [(a0, .inr (4, [g9, g10, g11, g12, g13, g14, .int k15, g16, g17, g18, .ref a3, .ref a4, .ref a5, .ref a6, .ref a7, g19, g20, g21])), (a1, .inr (3, [g22, g23, g24, .ref a8, g25, g26, g27])), (a3, .inl (cB28, 6, .inl f29)), (a4, .inl (cB30, 6, .inl f31)), (a5, .inl (cB32, 6, .inl f33)), (a6, .inl (cB34, 6, .inl f35)), (a7, .inl (cB36, 6, .inl f37)), (a8, .inl (cB38, 6, .inl f39))] s.heap := hP
  have hl := lv_entry ([.ref a0, .ref a1, .int k2]) (n := 9) (Nat.le_of_ble_eq_true rfl)
  rw [lg_entry_eq]
  generalize (lg_sl ([.ref a0, .ref a1, .int k2]) ++ List.replicate (9 - (lg_sl ([.ref a0, .ref a1, .int k2])).length) Slot.unset).toArray = ls at hl ⊢
  have hl : lv_has ls 9 [(0, .ref a0), (1, .ref a1), (2, .int k2)] := hl
  refine lv_bipush (v := (-2)) hx hb dX5_likeliestTaker_0 (by decide) ?_
  refine lv_istore_n (lv' := [(3, .int (-2)), (0, .ref a0), (1, .ref a1), (2, .int k2)]) hx hb dX5_likeliestTaker_2 rfl hl (by decide) rfl (fun ls hl => ?_)
  refine lv_lconst (v := 0) hx hb dX5_likeliestTaker_3 (by decide) ?_
  refine lv_lstore (lv' := [(4, .long 0), (3, .int (-2)), (0, .ref a0), (1, .ref a1), (2, .int k2)]) hx hb dX5_likeliestTaker_4 hl (by decide) rfl (fun ls hl => ?_)
  refine lv_iconst (v := 0) hx hb dX5_likeliestTaker_6 (by decide) ?_
  refine lv_istore (lv' := [(6, .int 0), (4, .long 0), (3, .int (-2)), (0, .ref a0), (1, .ref a1), (2, .int k2)]) hx hb dX5_likeliestTaker_7 hl (by decide) rfl (fun ls hl => ?_)
  have L9_44 : ∀ (n : Nat) (z41 : Int32) (j42 : Int64) (z43 : Int32) (H : Heap) (locs : List Loc) (ls : Array Slot), (0 ≤ z41.toInt ∧ z41.toInt ≤ 6) → ((-2) ≤ z43.toInt ∧ z43.toInt ≤ 5) → 6 - z41.toInt < (n : Int) → va_P (dC, dI) vwCl [(a0, .inr (4, [g9, g10, g11, g12, g13, g14, .int k15, g16, g17, g18, .ref a3, .ref a4, .ref a5, .ref a6, .ref a7, g19, g20, g21])), (a1, .inr (3, [g22, g23, g24, .ref a8, g25, g26, g27])), (a3, .inl (cB28, 6, .inl f29)), (a4, .inl (cB30, 6, .inl f31)), (a5, .inl (cB32, 6, .inl f33)), (a6, .inl (cB34, 6, .inl f35)), (a7, .inl (cB36, 6, .inl f37)), (a8, .inl (cB38, 6, .inl f39))] H → va_D A [(a0, .inr (4, [g9, g10, g11, g12, g13, g14, .int k15, g16, g17, g18, .ref a3, .ref a4, .ref a5, .ref a6, .ref a7, g19, g20, g21])), (a1, .inr (3, [g22, g23, g24, .ref a8, g25, g26, g27])), (a3, .inl (cB28, 6, .inl f29)), (a4, .inl (cB30, 6, .inl f31)), (a5, .inl (cB32, 6, .inl f33)), (a6, .inl (cB34, 6, .inl f35)), (a7, .inl (cB36, 6, .inl f37)), (a8, .inl (cB38, 6, .inl f39))] → va_S A s.heap H locs → lv_has ls 9 [(6, .int z41), (4, .long j42), (3, .int z43), (0, .ref a0), (1, .ref a1), (2, .int k2)] → W p l e (headSpec vX5_likeliestTaker { frames := 4, cells := 0, slots := 0, locals := 95 }).room s m ([.ref a0, .ref a1, .int k2]).toArray below meth c H locs 0 0 (MQ below (va_Qi (S := Unit) (fun (r : Int32) _ => ((-2) ≤ r.toInt ∧ r.toInt ≤ 5)) (fun _ t => BC (dC, dI) A [(a0, .inr (4, [g9, g10, g11, g12, g13, g14, .int k15, g16, g17, g18, .ref a3, .ref a4, .ref a5, .ref a6, .ref a7, g19, g20, g21])), (a1, .inr (3, [g22, g23, g24, .ref a8, g25, g26, g27])), (a3, .inl (cB28, 6, .inl f29)), (a4, .inl (cB30, 6, .inl f31)), (a5, .inl (cB32, 6, .inl f33)), (a6, .inl (cB34, 6, .inl f35)), (a7, .inl (cB36, 6, .inl f37)), (a8, .inl (cB38, 6, .inl f39))] [] t) A) ([.ref a0, .ref a1, .int k2]).toArray s 0 0 A) (F0 m 9 ls []) := by
    intro n
    induction n with
    | zero =>
      intro z41 j42 z43 H locs ls b9_0 b9_1 hm _ _ _ _
      exact absurd hm (by omega)
    | succ n ih9 =>
      intro z41 j42 z43 H locs ls b9_0 b9_1 hm9 hP hD hS hl
      refine lv_iload hx hb dX5_likeliestTaker_9 (lv_at hl 0 rfl) ?_
      refine lv_aload_n hx hb dX5_likeliestTaker_11 rfl (lv_at hl 3 rfl) ?_
      refine va_get (D := (dC, dI)) (ci := 4) (v := .int k15) (C := RX6) (T := TX6) (N := 18) hx hb hts iX5_likeliestTaker_X6 hown hK hP 0 rfl rfl 6 (by decide) (hts (.fieldLink RX5 11 "HookPier$Plan" "answers" "I") (List.mem_of_getElem? (i := 1) rfl)) (fun _ h9 => h9) rfl dX5_likeliestTaker_12 ?_
      refine lv_icmp_ge (tgt := 49) hx hb dX5_likeliestTaker_15 (by decide) (fun c45 => ?_) (fun c45 => ?_)
      · simp only [fa_lt, fa_le, fa_eq, ltv_0] at c45
        refine lv_iload_n hx hb dX5_likeliestTaker_49 rfl (lv_at hl 2 rfl) ?_
        have hP9 := hP.sub (ws' := [(a0, .inr (4, [g9, g10, g11, g12, g13, g14, .int k15, g16, g17, g18, .ref a3, .ref a4, .ref a5, .ref a6, .ref a7, g19, g20, g21])), (a1, .inr (3, [g22, g23, g24, .ref a8, g25, g26, g27])), (a3, .inl (cB28, 6, .inl f29)), (a4, .inl (cB30, 6, .inl f31)), (a5, .inl (cB32, 6, .inl f33)), (a6, .inl (cB34, 6, .inl f35)), (a7, .inl (cB36, 6, .inl f37)), (a8, .inl (cB38, 6, .inl f39))]) [0, 1, 2, 3, 4, 5, 6, 7] rfl
        have hD9 := hD.sub (ws' := [(a0, .inr (4, [g9, g10, g11, g12, g13, g14, .int k15, g16, g17, g18, .ref a3, .ref a4, .ref a5, .ref a6, .ref a7, g19, g20, g21])), (a1, .inr (3, [g22, g23, g24, .ref a8, g25, g26, g27])), (a3, .inl (cB28, 6, .inl f29)), (a4, .inl (cB30, 6, .inl f31)), (a5, .inl (cB32, 6, .inl f33)), (a6, .inl (cB34, 6, .inl f35)), (a7, .inl (cB36, 6, .inl f37)), (a8, .inl (cB38, 6, .inl f39))]) [0, 1, 2, 3, 4, 5, 6, 7] (by decide) rfl
        have hK9 := hK.sub (tys' := []) [] rfl
        exact W.iret (v := z43) hx hb hr (fun t ht hW => ⟨⟨z43, (), rfl, (by first | trivial | omega | (simp only [ltv_0]; omega)), by rw [ht]; exact hP9, va_K.moved hW.alike hK9, hD9⟩, hS.F ht⟩) hS.2.2 dX5_likeliestTaker_50
      · simp only [fa_lt, fa_le, fa_eq, ltv_0] at c45
        refine lv_aload_n hx hb dX5_likeliestTaker_18 rfl (lv_at hl 3 rfl) ?_
        refine lv_aload_n hx hb dX5_likeliestTaker_19 rfl (lv_at hl 4 rfl) ?_
        refine lv_iload hx hb dX5_likeliestTaker_20 (lv_at hl 0 rfl) ?_
        refine lv_iload_n hx hb dX5_likeliestTaker_22 rfl (lv_at hl 5 rfl) ?_
        refine cl_l (wc := [(a0, .inr (4, [g9, g10, g11, g12, g13, g14, .int k15, g16, g17, g18, .ref a3, .ref a4, .ref a5, .ref a6, .ref a7, g19, g20, g21])), (a1, .inr (3, [g22, g23, g24, .ref a8, g25, g26, g27])), (a3, .inl (cB28, 6, .inl f29)), (a4, .inl (cB30, 6, .inl f31)), (a5, .inl (cB32, 6, .inl f33)), (a6, .inl (cB34, 6, .inl f35)), (a7, .inl (cB36, 6, .inl f37)), (a8, .inl (cB38, 6, .inl f39))]) (wr := []) (va_runS (As := [.ref a0, .ref a1, .int z41, .int k2]) (rest := []) ⟨hx, hb, hml, hown, hts⟩ (kX5_chance l dC dI a0 a1 z41 k2 a3 a4 a5 a6 a7 a8 (g9) (g10) (g11) (g12) (g13) (g14) k15 (g16) (g17) (g18) (g19) (g20) (g21) (g22) (g23) (g24) (g25) (g26) (g27) cB28 f29 cB30 f31 cB32 f33 cB34 f35 cB36 f37 cB38 f39 (by first | omega | (simp only [ltv_0]; omega)) H.size) (va_cwS 4 hts gX5_likeliestTaker_0 rfl rfl rfl (by decide +kernel) ⟨Nat.le_of_ble_eq_true rfl, Nat.le_of_ble_eq_true rfl⟩) (PS (hP.sub (ws' := [(a0, .inr (4, [g9, g10, g11, g12, g13, g14, .int k15, g16, g17, g18, .ref a3, .ref a4, .ref a5, .ref a6, .ref a7, g19, g20, g21])), (a1, .inr (3, [g22, g23, g24, .ref a8, g25, g26, g27])), (a3, .inl (cB28, 6, .inl f29)), (a4, .inl (cB30, 6, .inl f31)), (a5, .inl (cB32, 6, .inl f33)), (a6, .inl (cB34, 6, .inl f35)), (a7, .inl (cB36, 6, .inl f37)), (a8, .inl (cB38, 6, .inl f39))]) [0, 1, 2, 3, 4, 5, 6, 7] rfl) (hK.sub (tys' := [(cB28, .int), (cB30, .int), (cB32, .int), (cB34, .int), (cB36, .int), (cB38, .int)]) [0, 1, 2, 3, 4, 5] rfl) (hD.sub (ws' := [(a0, .inr (4, [g9, g10, g11, g12, g13, g14, .int k15, g16, g17, g18, .ref a3, .ref a4, .ref a5, .ref a6, .ref a7, g19, g20, g21])), (a1, .inr (3, [g22, g23, g24, .ref a8, g25, g26, g27])), (a3, .inl (cB28, 6, .inl f29)), (a4, .inl (cB30, 6, .inl f31)), (a5, .inl (cB32, 6, .inl f33)), (a6, .inl (cB34, 6, .inl f35)), (a7, .inl (cB36, 6, .inl f37)), (a8, .inl (cB38, 6, .inl f39))]) [0, 1, 2, 3, 4, 5, 6, 7] (by decide) rfl) hN) rfl rfl hl.1 rfl (lv_room (Nat.le_of_ble_eq_true rfl)) dX5_likeliestTaker_23 ⟨Nat.le_of_ble_eq_true rfl, Nat.le_of_ble_eq_true rfl⟩) hP hD hK hS hA [0, 1, 2, 3, 4, 5, 6, 7] [] rfl rfl (by decide) (by decide) (fun z46 _u H locs hw hP hD hK hS => ?_)
        have b47 := hw
        have hP : va_P (dC, dI) vwCl [(a0, .inr (4, [g9, g10, g11, g12, g13, g14, .int k15, g16, g17, g18, .ref a3, .ref a4, .ref a5, .ref a6, .ref a7, g19, g20, g21])), (a1, .inr (3, [g22, g23, g24, .ref a8, g25, g26, g27])), (a3, .inl (cB28, 6, .inl f29)), (a4, .inl (cB30, 6, .inl f31)), (a5, .inl (cB32, 6, .inl f33)), (a6, .inl (cB34, 6, .inl f35)), (a7, .inl (cB36, 6, .inl f37)), (a8, .inl (cB38, 6, .inl f39))] H := hP
        have hD : va_D A [(a0, .inr (4, [g9, g10, g11, g12, g13, g14, .int k15, g16, g17, g18, .ref a3, .ref a4, .ref a5, .ref a6, .ref a7, g19, g20, g21])), (a1, .inr (3, [g22, g23, g24, .ref a8, g25, g26, g27])), (a3, .inl (cB28, 6, .inl f29)), (a4, .inl (cB30, 6, .inl f31)), (a5, .inl (cB32, 6, .inl f33)), (a6, .inl (cB34, 6, .inl f35)), (a7, .inl (cB36, 6, .inl f37)), (a8, .inl (cB38, 6, .inl f39))] := hD
        have hK : va_K (dC, dI) vwCl [(cB28, .int), (cB30, .int), (cB32, .int), (cB34, .int), (cB36, .int), (cB38, .int)] s := hK
        refine lv_lstore (lv' := [(7, .long z46), (6, .int z41), (4, .long j42), (3, .int z43), (0, .ref a0), (1, .ref a1), (2, .int k2)]) hx hb dX5_likeliestTaker_26 hl (by decide) rfl (fun ls hl => ?_)
        refine lv_lload hx hb dX5_likeliestTaker_28 (lv_at hl 0 rfl) ?_
        refine lv_lload hx hb dX5_likeliestTaker_30 (lv_at hl 2 rfl) ?_
        refine W.lcmp hx hb dX5_likeliestTaker_32 ?_
        refine lv_topi (fun z48 ez48 => ?_)
        refine lv_if_le (tgt := 43) hx hb dX5_likeliestTaker_33 (by decide) (fun c49 => ?_) (fun c49 => ?_)
        · clear c49
          obtain ⟨z50, ez50⟩ : ∃ y : Int32, y = z41 + 1 := ⟨_, rfl⟩
          have tz50 : z50.toInt = z41.toInt + 1 := by rw [ez50, iadd_t (by simp only [ltv_1]; omega) (by simp only [ltv_1]; omega)]; simp only [ltv_1]
          refine lv_iinc (v := z50) (lv' := [(6, .int z50), (7, .long z46), (4, .long j42), (3, .int z43), (0, .ref a0), (1, .ref a1), (2, .int k2)]) hx hb dX5_likeliestTaker_43 hl (k := 1) rfl (by rw [ez50]; rfl) (by decide) rfl (fun ls hl => ?_)
          refine lv_goto (tgt := 9) hx hb dX5_likeliestTaker_46 (by decide) ?_
          exact ih9 z50 j42 z43 H locs ls (by first | omega | (simp only [ltv_0]; omega)) (by first | omega | (simp only [ltv_0]; omega)) (by first | omega | (simp only [ltv_0]; omega)) hP hD hS (lv_sub hl [0, 2, 3, 4, 5, 6] rfl)
        · clear c49
          refine lv_lload hx hb dX5_likeliestTaker_36 (lv_at hl 0 rfl) ?_
          refine lv_lstore (lv' := [(4, .long z46), (7, .long z46), (6, .int z41), (3, .int z43), (0, .ref a0), (1, .ref a1), (2, .int k2)]) hx hb dX5_likeliestTaker_38 hl (by decide) rfl (fun ls hl => ?_)
          refine lv_iload hx hb dX5_likeliestTaker_40 (lv_at hl 2 rfl) ?_
          refine lv_istore_n (lv' := [(3, .int z41), (4, .long z46), (7, .long z46), (6, .int z41), (0, .ref a0), (1, .ref a1), (2, .int k2)]) hx hb dX5_likeliestTaker_42 rfl hl (by decide) rfl (fun ls hl => ?_)
          obtain ⟨z51, ez51⟩ : ∃ y : Int32, y = z41 + 1 := ⟨_, rfl⟩
          have tz51 : z51.toInt = z41.toInt + 1 := by rw [ez51, iadd_t (by simp only [ltv_1]; omega) (by simp only [ltv_1]; omega)]; simp only [ltv_1]
          refine lv_iinc (v := z51) (lv' := [(6, .int z51), (3, .int z41), (4, .long z46), (7, .long z46), (0, .ref a0), (1, .ref a1), (2, .int k2)]) hx hb dX5_likeliestTaker_43 hl (k := 3) rfl (by rw [ez51]; rfl) (by decide) rfl (fun ls hl => ?_)
          refine lv_goto (tgt := 9) hx hb dX5_likeliestTaker_46 (by decide) ?_
          exact ih9 z51 z46 z41 H locs ls (by first | omega | (simp only [ltv_0]; omega)) (by first | omega | (simp only [ltv_0]; omega)) (by first | omega | (simp only [ltv_0]; omega)) hP hD hS (lv_sub hl [0, 2, 1, 4, 5, 6] rfl)
  exact L9_44 7 (0) (0) ((-2)) s.heap _ ls (by first | omega | (simp only [ltv_m2, ltv_0]; omega)) (by first | omega | (simp only [ltv_m2, ltv_0]; omega)) (by first | omega | (simp only [ltv_m2, ltv_0]; omega)) hP hD hS (lv_sub hl [0, 1, 2, 3, 4, 5] rfl)
theorem dX5_surestQuestion_0 : decode cX5_surestQuestion 0 = .ok (.bipush (-2), 2) := by decide +kernel
theorem dX5_surestQuestion_11 : decode cX5_surestQuestion 11 = .ok (.aload_n 0, 1) := by decide +kernel
theorem dX5_surestQuestion_12 : decode cX5_surestQuestion 12 = .ok (.invokevirtual 41, 3) := by decide +kernel
theorem dX5_surestQuestion_15 : decode cX5_surestQuestion 15 = .ok (.if_icmp .ge 47, 3) := by decide +kernel
theorem dX5_surestQuestion_18 : decode cX5_surestQuestion 18 = .ok (.aload_n 0, 1) := by decide +kernel
theorem dX5_surestQuestion_19 : decode cX5_surestQuestion 19 = .ok (.iload 6, 2) := by decide +kernel
theorem dX5_surestQuestion_2 : decode cX5_surestQuestion 2 = .ok (.istore_n 3, 1) := by decide +kernel
theorem dX5_surestQuestion_21 : decode cX5_surestQuestion 21 = .ok (.invokevirtual 45, 3) := by decide +kernel
theorem dX5_surestQuestion_24 : decode cX5_surestQuestion 24 = .ok (.ifCond .eq 14, 3) := by decide +kernel
theorem dX5_surestQuestion_27 : decode cX5_surestQuestion 27 = .ok (.aload_n 0, 1) := by decide +kernel
theorem dX5_surestQuestion_28 : decode cX5_surestQuestion 28 = .ok (.aload_n 1, 1) := by decide +kernel
theorem dX5_surestQuestion_29 : decode cX5_surestQuestion 29 = .ok (.iload_n 2, 1) := by decide +kernel
theorem dX5_surestQuestion_3 : decode cX5_surestQuestion 3 = .ok (.lconst 0, 1) := by decide +kernel
theorem dX5_surestQuestion_30 : decode cX5_surestQuestion 30 = .ok (.iload 6, 2) := by decide +kernel
theorem dX5_surestQuestion_32 : decode cX5_surestQuestion 32 = .ok (.invokestatic 35, 3) := by decide +kernel
theorem dX5_surestQuestion_35 : decode cX5_surestQuestion 35 = .ok (.goto 4, 3) := by decide +kernel
theorem dX5_surestQuestion_38 : decode cX5_surestQuestion 38 = .ok (.lconst 0, 1) := by decide +kernel
theorem dX5_surestQuestion_39 : decode cX5_surestQuestion 39 = .ok (.lstore 7, 2) := by decide +kernel
theorem dX5_surestQuestion_4 : decode cX5_surestQuestion 4 = .ok (.lstore 4, 2) := by decide +kernel
theorem dX5_surestQuestion_41 : decode cX5_surestQuestion 41 = .ok (.lload 7, 2) := by decide +kernel
theorem dX5_surestQuestion_43 : decode cX5_surestQuestion 43 = .ok (.lload 4, 2) := by decide +kernel
theorem dX5_surestQuestion_45 : decode cX5_surestQuestion 45 = .ok (.lcmp, 1) := by decide +kernel
theorem dX5_surestQuestion_46 : decode cX5_surestQuestion 46 = .ok (.ifCond .le 10, 3) := by decide +kernel
theorem dX5_surestQuestion_49 : decode cX5_surestQuestion 49 = .ok (.lload 7, 2) := by decide +kernel
theorem dX5_surestQuestion_51 : decode cX5_surestQuestion 51 = .ok (.lstore 4, 2) := by decide +kernel
theorem dX5_surestQuestion_53 : decode cX5_surestQuestion 53 = .ok (.iload 6, 2) := by decide +kernel
theorem dX5_surestQuestion_55 : decode cX5_surestQuestion 55 = .ok (.istore_n 3, 1) := by decide +kernel
theorem dX5_surestQuestion_56 : decode cX5_surestQuestion 56 = .ok (.iinc 6 1, 3) := by decide +kernel
theorem dX5_surestQuestion_59 : decode cX5_surestQuestion 59 = .ok (.goto (-50), 3) := by decide +kernel
theorem dX5_surestQuestion_6 : decode cX5_surestQuestion 6 = .ok (.iconst 0, 1) := by decide +kernel
theorem dX5_surestQuestion_62 : decode cX5_surestQuestion 62 = .ok (.iload_n 3, 1) := by decide +kernel
theorem dX5_surestQuestion_63 : decode cX5_surestQuestion 63 = .ok (.ireturn, 1) := by decide +kernel
theorem dX5_surestQuestion_7 : decode cX5_surestQuestion 7 = .ok (.istore 6, 2) := by decide +kernel
theorem dX5_surestQuestion_9 : decode cX5_surestQuestion 9 = .ok (.iload 6, 2) := by decide +kernel
def vX5_surestQuestion : List Cond := .code yX5_surestQuestion cX5_surestQuestion 9 (some .int) :: ([.methodLink RX5 41 yX6_questionBound, .instanceMethod yX6_questionBound, .selects RX6 yX6_questionBound yX6_questionBound, .initialized RX6, .code yX6_questionBound cX6_questionBound 1 (some .int), .fieldLink RX6 9 "HookPier$Plan" "spots" "I", .methodLink RX5 45 yX6_hasQuestion, .instanceMethod yX6_hasQuestion, .selects RX6 yX6_hasQuestion yX6_hasQuestion, .code yX6_hasQuestion cX6_hasQuestion 2 (some .boolean), .code yX10_spotOf cX10_spotOf 1 (some .int), .initialized RX10, .static yX10_spotOf, .methodLink RX6 76 yX6_hasSpot, .instanceMethod yX6_hasSpot, .selects RX6 yX6_hasSpot yX6_hasSpot, .code yX6_hasSpot cX6_hasSpot 2 (some .boolean), .code yX10_within cX10_within 3 (some .boolean), .static yX10_within, .code yX10_fathomsOf cX10_fathomsOf 1 (some .int), .static yX10_fathomsOf, .fieldLink RX6 15 "HookPier$Plan" "deep" "I", .code yX10_baitOf cX10_baitOf 1 (some .int), .static yX10_baitOf, .methodLink RX6 86 yX6_hasBait, .instanceMethod yX6_hasBait, .selects RX6 yX6_hasBait yX6_hasBait, .code yX6_hasBait cX6_hasBait 2 (some .boolean), .fieldLink RX6 24 "HookPier$Plan" "baits" "I", .methodLink RX5 35 yX5_chance, .static yX5_chance, .initialized RX5, .code yX5_chance cX5_chance 9 (some .long), .constantLong RX5 9 (1000000000000), .fieldLink RX5 11 "HookPier$Plan" "answers" "I", .fieldLink RX5 17 "HookPier$Now" "stage" "[I", .constantLong RX5 23 (100), .methodLink RX5 25 yX6_wishFor, .instanceMethod yX6_wishFor, .selects RX6 yX6_wishFor yX6_wishFor, .code yX6_wishFor cX6_wishFor 3 (some .int), .fieldLink RX6 52 "HookPier$Plan" "hunger" "[I", .methodLink RX6 94 yX6_wishBy, .instanceMethod yX6_wishBy, .selects RX6 yX6_wishBy yX6_wishBy, .code yX6_wishBy cX6_wishBy 5 (some .int), .fieldLink RX6 46 "HookPier$Plan" "at" "[I", .methodLink RX6 89 Lib.Math.abs.name, .static Lib.Math.abs.name, .initialized "java/lang/Math", .code Lib.Math.abs.name Lib.Math.abs.code 1 (some .int), .fieldLink RX6 43 "HookPier$Plan" "kind" "[I", .fieldLink RX6 55 "HookPier$Plan" "likes" "[I", .methodLink RX6 98 Lib.Math.min.name, .static Lib.Math.min.name, .code Lib.Math.min.name Lib.Math.min.code 2 (some .int), .methodLink RX6 102 Lib.Math.max.name, .static Lib.Math.max.name, .code Lib.Math.max.name Lib.Math.max.code 2 (some .int), .fieldLink RX6 49 "HookPier$Plan" "depth" "[I"] ++ wsX60 ++ wsX40)
theorem iX5_surestQuestion_X6 : ∀ w ∈ wsX60, w ∈ vX5_surestQuestion := fun _ h => List.mem_cons_of_mem _ (List.mem_append_left _ (List.mem_append_right _ h))
theorem iX5_surestQuestion_X4 : ∀ w ∈ wsX40, w ∈ vX5_surestQuestion := fun _ h => List.mem_cons_of_mem _ (List.mem_append_right _ h)
set_option maxRecDepth 20000 in
theorem gX5_surestQuestion_0 : GoodIn vX5_surestQuestion (wsV RX5 41 RX6 yX6_questionBound vX6_questionBound) := goodIn_app (goodIn_r [.methodLink RX5 41 yX6_questionBound, .instanceMethod yX6_questionBound, .selects RX6 yX6_questionBound yX6_questionBound, .initialized RX6] [1, 2, 3, 4] (by decide +kernel) (by decide +kernel)) (goodIn_ca (goodIn_r (.code yX6_questionBound cX6_questionBound 1 (some .int) :: [.fieldLink RX6 9 "HookPier$Plan" "spots" "I"]) [5, 6] (by decide +kernel) (by decide +kernel) : GoodIn vX5_surestQuestion (.code yX6_questionBound cX6_questionBound 1 (some .int) :: [.fieldLink RX6 9 "HookPier$Plan" "spots" "I"])) (goodIn_sub iX5_surestQuestion_X6 (by decide +kernel)))
set_option maxRecDepth 20000 in
theorem gX5_surestQuestion_1 : GoodIn vX5_surestQuestion (wsV RX5 45 RX6 yX6_hasQuestion vX6_hasQuestion) := goodIn_app (goodIn_r [.methodLink RX5 45 yX6_hasQuestion, .instanceMethod yX6_hasQuestion, .selects RX6 yX6_hasQuestion yX6_hasQuestion, .initialized RX6] [7, 8, 9, 4] (by decide +kernel) (by decide +kernel)) (goodIn_ca (goodIn_r (.code yX6_hasQuestion cX6_hasQuestion 2 (some .boolean) :: [.code yX10_spotOf cX10_spotOf 1 (some .int), .initialized RX10, .static yX10_spotOf, .methodLink RX6 76 yX6_hasSpot, .instanceMethod yX6_hasSpot, .selects RX6 yX6_hasSpot yX6_hasSpot, .initialized RX6, .code yX6_hasSpot cX6_hasSpot 2 (some .boolean), .fieldLink RX6 9 "HookPier$Plan" "spots" "I", .code yX10_within cX10_within 3 (some .boolean), .static yX10_within, .code yX10_fathomsOf cX10_fathomsOf 1 (some .int), .static yX10_fathomsOf, .fieldLink RX6 15 "HookPier$Plan" "deep" "I", .code yX10_baitOf cX10_baitOf 1 (some .int), .static yX10_baitOf, .methodLink RX6 86 yX6_hasBait, .instanceMethod yX6_hasBait, .selects RX6 yX6_hasBait yX6_hasBait, .code yX6_hasBait cX6_hasBait 2 (some .boolean), .fieldLink RX6 24 "HookPier$Plan" "baits" "I"]) [10, 11, 12, 13, 14, 15, 16, 4, 17, 6, 18, 19, 20, 21, 22, 23, 24, 25, 26, 27, 28, 29] (by decide +kernel) (by decide +kernel) : GoodIn vX5_surestQuestion (.code yX6_hasQuestion cX6_hasQuestion 2 (some .boolean) :: [.code yX10_spotOf cX10_spotOf 1 (some .int), .initialized RX10, .static yX10_spotOf, .methodLink RX6 76 yX6_hasSpot, .instanceMethod yX6_hasSpot, .selects RX6 yX6_hasSpot yX6_hasSpot, .initialized RX6, .code yX6_hasSpot cX6_hasSpot 2 (some .boolean), .fieldLink RX6 9 "HookPier$Plan" "spots" "I", .code yX10_within cX10_within 3 (some .boolean), .static yX10_within, .code yX10_fathomsOf cX10_fathomsOf 1 (some .int), .static yX10_fathomsOf, .fieldLink RX6 15 "HookPier$Plan" "deep" "I", .code yX10_baitOf cX10_baitOf 1 (some .int), .static yX10_baitOf, .methodLink RX6 86 yX6_hasBait, .instanceMethod yX6_hasBait, .selects RX6 yX6_hasBait yX6_hasBait, .code yX6_hasBait cX6_hasBait 2 (some .boolean), .fieldLink RX6 24 "HookPier$Plan" "baits" "I"])) (goodIn_sub iX5_surestQuestion_X6 (by decide +kernel)))
set_option maxRecDepth 20000 in
theorem gX5_surestQuestion_2 : GoodIn vX5_surestQuestion (va_wsS RX5 35 yX5_chance vX5_chance) := goodIn_app (goodIn_r [.methodLink RX5 35 yX5_chance, .static yX5_chance, .initialized RX5] [30, 31, 32] (by decide +kernel) (by decide +kernel)) (goodIn_ca (goodIn_ca (goodIn_r (.code yX5_chance cX5_chance 9 (some .long) :: [.constantLong RX5 9 (1000000000000), .fieldLink RX5 11 "HookPier$Plan" "answers" "I", .fieldLink RX5 17 "HookPier$Now" "stage" "[I", .constantLong RX5 23 (100), .methodLink RX5 25 yX6_wishFor, .instanceMethod yX6_wishFor, .selects RX6 yX6_wishFor yX6_wishFor, .initialized RX6, .code yX6_wishFor cX6_wishFor 3 (some .int), .fieldLink RX6 52 "HookPier$Plan" "hunger" "[I", .methodLink RX6 94 yX6_wishBy, .instanceMethod yX6_wishBy, .selects RX6 yX6_wishBy yX6_wishBy, .code yX6_wishBy cX6_wishBy 5 (some .int), .code yX10_spotOf cX10_spotOf 1 (some .int), .initialized RX10, .static yX10_spotOf, .fieldLink RX6 46 "HookPier$Plan" "at" "[I", .methodLink RX6 89 Lib.Math.abs.name, .static Lib.Math.abs.name, .initialized "java/lang/Math", .code Lib.Math.abs.name Lib.Math.abs.code 1 (some .int), .fieldLink RX6 43 "HookPier$Plan" "kind" "[I", .fieldLink RX6 55 "HookPier$Plan" "likes" "[I", .code yX10_baitOf cX10_baitOf 1 (some .int), .static yX10_baitOf, .methodLink RX6 98 Lib.Math.min.name, .static Lib.Math.min.name, .code Lib.Math.min.name Lib.Math.min.code 2 (some .int), .methodLink RX6 102 Lib.Math.max.name, .static Lib.Math.max.name, .code Lib.Math.max.name Lib.Math.max.code 2 (some .int), .code yX10_fathomsOf cX10_fathomsOf 1 (some .int), .static yX10_fathomsOf, .fieldLink RX6 49 "HookPier$Plan" "depth" "[I"]) [33, 34, 35, 36, 37, 38, 39, 40, 4, 41, 42, 43, 44, 45, 46, 11, 12, 13, 47, 48, 49, 50, 51, 52, 53, 23, 24, 54, 55, 56, 57, 58, 59, 20, 21, 60] (by decide +kernel) (by decide +kernel) : GoodIn vX5_surestQuestion (.code yX5_chance cX5_chance 9 (some .long) :: [.constantLong RX5 9 (1000000000000), .fieldLink RX5 11 "HookPier$Plan" "answers" "I", .fieldLink RX5 17 "HookPier$Now" "stage" "[I", .constantLong RX5 23 (100), .methodLink RX5 25 yX6_wishFor, .instanceMethod yX6_wishFor, .selects RX6 yX6_wishFor yX6_wishFor, .initialized RX6, .code yX6_wishFor cX6_wishFor 3 (some .int), .fieldLink RX6 52 "HookPier$Plan" "hunger" "[I", .methodLink RX6 94 yX6_wishBy, .instanceMethod yX6_wishBy, .selects RX6 yX6_wishBy yX6_wishBy, .code yX6_wishBy cX6_wishBy 5 (some .int), .code yX10_spotOf cX10_spotOf 1 (some .int), .initialized RX10, .static yX10_spotOf, .fieldLink RX6 46 "HookPier$Plan" "at" "[I", .methodLink RX6 89 Lib.Math.abs.name, .static Lib.Math.abs.name, .initialized "java/lang/Math", .code Lib.Math.abs.name Lib.Math.abs.code 1 (some .int), .fieldLink RX6 43 "HookPier$Plan" "kind" "[I", .fieldLink RX6 55 "HookPier$Plan" "likes" "[I", .code yX10_baitOf cX10_baitOf 1 (some .int), .static yX10_baitOf, .methodLink RX6 98 Lib.Math.min.name, .static Lib.Math.min.name, .code Lib.Math.min.name Lib.Math.min.code 2 (some .int), .methodLink RX6 102 Lib.Math.max.name, .static Lib.Math.max.name, .code Lib.Math.max.name Lib.Math.max.code 2 (some .int), .code yX10_fathomsOf cX10_fathomsOf 1 (some .int), .static yX10_fathomsOf, .fieldLink RX6 49 "HookPier$Plan" "depth" "[I"])) (goodIn_sub iX5_surestQuestion_X6 (by decide +kernel))) (goodIn_sub iX5_surestQuestion_X4 (by decide +kernel)))
set_option maxHeartbeats 2000000 in
set_option maxRecDepth 100000 in
theorem kX5_surestQuestion (l : Launch) (dC : Nat → ClassId) (dI : Nat → Nat → Nat) (a0 : Nat) (a1 : Nat) (k2 : Int32) (a3 : Nat) (a4 : Nat) (a5 : Nat) (a6 : Nat) (a7 : Nat) (a8 : Nat) (k9 : Int32) (k10 : Int32) (g11 : Value) (g12 : Value) (k13 : Int32) (g14 : Value) (k15 : Int32) (g16 : Value) (g17 : Value) (g18 : Value) (g19 : Value) (g20 : Value) (g21 : Value) (g22 : Value) (g23 : Value) (g24 : Value) (g25 : Value) (g26 : Value) (g27 : Value) (cB28 : ClassId) (f29 : Nat → Int32) (cB30 : ClassId) (f31 : Nat → Int32) (cB32 : ClassId) (f33 : Nat → Int32) (cB34 : ClassId) (f35 : Nat → Int32) (cB36 : ClassId) (f37 : Nat → Int32) (cB38 : ClassId) (f39 : Nat → Int32) (hk9 : (0 ≤ k9.toInt ∧ k9.toInt ≤ 8)) (hk10 : (0 ≤ k10.toInt ∧ k10.toInt ≤ 9)) (hk13 : (0 ≤ k13.toInt ∧ k13.toInt ≤ 4)) (hk15 : (0 ≤ k15.toInt ∧ k15.toInt ≤ 6)) (sz : Nat) : Met l yX5_surestQuestion vX5_surestQuestion ({ frames := 4, cells := 0, slots := 0, locals := 95 }) (PC (dC, dI) [.ref a0, .ref a1, .int k2] sz [(a0, .inr (4, [.int k9, .int k10, g11, g12, .int k13, g14, .int k15, g16, g17, g18, .ref a3, .ref a4, .ref a5, .ref a6, .ref a7, g19, g20, g21])), (a1, .inr (3, [g22, g23, g24, .ref a8, g25, g26, g27])), (a3, .inl (cB28, 6, .inl f29)), (a4, .inl (cB30, 6, .inl f31)), (a5, .inl (cB32, 6, .inl f33)), (a6, .inl (cB34, 6, .inl f35)), (a7, .inl (cB36, 6, .inl f37)), (a8, .inl (cB38, 6, .inl f39))] [(cB28, .int), (cB30, .int), (cB32, .int), (cB34, .int), (cB36, .int), (cB38, .int)]) (va_Qi (S := Unit) (fun (r : Int32) _ => ((-2) ≤ r.toInt ∧ r.toInt ≤ 799)) (fun _ t => BC (dC, dI) (va_A [(a0, .inr (4, [.int k9, .int k10, g11, g12, .int k13, g14, .int k15, g16, g17, g18, .ref a3, .ref a4, .ref a5, .ref a6, .ref a7, g19, g20, g21])), (a1, .inr (3, [g22, g23, g24, .ref a8, g25, g26, g27])), (a3, .inl (cB28, 6, .inl f29)), (a4, .inl (cB30, 6, .inl f31)), (a5, .inl (cB32, 6, .inl f33)), (a6, .inl (cB34, 6, .inl f35)), (a7, .inl (cB36, 6, .inl f37)), (a8, .inl (cB38, 6, .inl f39))] sz) [(a0, .inr (4, [.int k9, .int k10, g11, g12, .int k13, g14, .int k15, g16, g17, g18, .ref a3, .ref a4, .ref a5, .ref a6, .ref a7, g19, g20, g21])), (a1, .inr (3, [g22, g23, g24, .ref a8, g25, g26, g27])), (a3, .inl (cB28, 6, .inl f29)), (a4, .inl (cB30, 6, .inl f31)), (a5, .inl (cB32, 6, .inl f33)), (a6, .inl (cB34, 6, .inl f35)), (a7, .inl (cB36, 6, .inl f37)), (a8, .inl (cB38, 6, .inl f39))] [] t) (va_A [(a0, .inr (4, [.int k9, .int k10, g11, g12, .int k13, g14, .int k15, g16, g17, g18, .ref a3, .ref a4, .ref a5, .ref a6, .ref a7, g19, g20, g21])), (a1, .inr (3, [g22, g23, g24, .ref a8, g25, g26, g27])), (a3, .inl (cB28, 6, .inl f29)), (a4, .inl (cB30, 6, .inl f31)), (a5, .inl (cB32, 6, .inl f33)), (a6, .inl (cB34, 6, .inl f35)), (a7, .inl (cB36, 6, .inl f37)), (a8, .inl (cB38, 6, .inl f39))] sz)) 0 0 (va_A [(a0, .inr (4, [.int k9, .int k10, g11, g12, .int k13, g14, .int k15, g16, g17, g18, .ref a3, .ref a4, .ref a5, .ref a6, .ref a7, g19, g20, g21])), (a1, .inr (3, [g22, g23, g24, .ref a8, g25, g26, g27])), (a3, .inl (cB28, 6, .inl f29)), (a4, .inl (cB30, 6, .inl f31)), (a5, .inl (cB32, 6, .inl f33)), (a6, .inl (cB34, 6, .inl f35)), (a7, .inl (cB36, 6, .inl f37)), (a8, .inl (cB38, 6, .inl f39))] sz) := by
  refine Met.ofW (cc := cX5_surestQuestion) (maxL := 9) (ret := (some .int)) (by decide) rfl ?_
  intro p e s m args below meth c s₁ B hml hv
  obtain ⟨rfl, hsz, hP, hK, hD0, hN⟩ := hv
  have hx := B.exec
  have hb := B.bytes
  have hr := B.returns
  have hts := atoms_spec (ws := vX5_surestQuestion) B.pre
  have hown : s.vm.findClass RX5 = some m.cls := findClass_of_methodNamed B.named
  have hlocks := B.notSynchronized
  subst hsz
  have hD := hD0.self (sz := s.heap.size)
  generalize hAe : va_A [(a0, .inr (4, [.int k9, .int k10, g11, g12, .int k13, g14, .int k15, g16, g17, g18, .ref a3, .ref a4, .ref a5, .ref a6, .ref a7, g19, g20, g21])), (a1, .inr (3, [g22, g23, g24, .ref a8, g25, g26, g27])), (a3, .inl (cB28, 6, .inl f29)), (a4, .inl (cB30, 6, .inl f31)), (a5, .inl (cB32, 6, .inl f33)), (a6, .inl (cB34, 6, .inl f35)), (a7, .inl (cB36, 6, .inl f37)), (a8, .inl (cB38, 6, .inl f39))] s.heap.size = A at hD ⊢
  have hA : ∀ q : Nat, s.heap.size ≤ q → A q := fun q h => by rw [← hAe]; exact Or.inr h
  have hS : va_S A s.heap s.heap [] := va_S.rf
  have hP : va_P (dC, dI) vwCl [(a0, .inr (4, [.int k9, .int k10, g11, g12, .int k13, g14, .int k15, g16, g17, g18, .ref a3, .ref a4, .ref a5, .ref a6, .ref a7, g19, g20, g21])), (a1, .inr (3, [g22, g23, g24, .ref a8, g25, g26, g27])), (a3, .inl (cB28, 6, .inl f29)), (a4, .inl (cB30, 6, .inl f31)), (a5, .inl (cB32, 6, .inl f33)), (a6, .inl (cB34, 6, .inl f35)), (a7, .inl (cB36, 6, .inl f37)), (a8, .inl (cB38, 6, .inl f39))] s.heap := hP
  have hl := lv_entry ([.ref a0, .ref a1, .int k2]) (n := 9) (Nat.le_of_ble_eq_true rfl)
  rw [lg_entry_eq]
  generalize (lg_sl ([.ref a0, .ref a1, .int k2]) ++ List.replicate (9 - (lg_sl ([.ref a0, .ref a1, .int k2])).length) Slot.unset).toArray = ls at hl ⊢
  have hl : lv_has ls 9 [(0, .ref a0), (1, .ref a1), (2, .int k2)] := hl
  refine lv_bipush (v := (-2)) hx hb dX5_surestQuestion_0 (by decide) ?_
  refine lv_istore_n (lv' := [(3, .int (-2)), (0, .ref a0), (1, .ref a1), (2, .int k2)]) hx hb dX5_surestQuestion_2 rfl hl (by decide) rfl (fun ls hl => ?_)
  refine lv_lconst (v := 0) hx hb dX5_surestQuestion_3 (by decide) ?_
  refine lv_lstore (lv' := [(4, .long 0), (3, .int (-2)), (0, .ref a0), (1, .ref a1), (2, .int k2)]) hx hb dX5_surestQuestion_4 hl (by decide) rfl (fun ls hl => ?_)
  refine lv_iconst (v := 0) hx hb dX5_surestQuestion_6 (by decide) ?_
  refine lv_istore (lv' := [(6, .int 0), (4, .long 0), (3, .int (-2)), (0, .ref a0), (1, .ref a1), (2, .int k2)]) hx hb dX5_surestQuestion_7 hl (by decide) rfl (fun ls hl => ?_)
  have L9_455 : ∀ (n : Nat) (z452 : Int32) (j453 : Int64) (z454 : Int32) (H : Heap) (locs : List Loc) (ls : Array Slot), (0 ≤ z452.toInt ∧ z452.toInt ≤ 800) → ((-2) ≤ z454.toInt ∧ z454.toInt ≤ 799) → 800 - z452.toInt < (n : Int) → va_P (dC, dI) vwCl [(a0, .inr (4, [.int k9, .int k10, g11, g12, .int k13, g14, .int k15, g16, g17, g18, .ref a3, .ref a4, .ref a5, .ref a6, .ref a7, g19, g20, g21])), (a1, .inr (3, [g22, g23, g24, .ref a8, g25, g26, g27])), (a3, .inl (cB28, 6, .inl f29)), (a4, .inl (cB30, 6, .inl f31)), (a5, .inl (cB32, 6, .inl f33)), (a6, .inl (cB34, 6, .inl f35)), (a7, .inl (cB36, 6, .inl f37)), (a8, .inl (cB38, 6, .inl f39))] H → va_D A [(a0, .inr (4, [.int k9, .int k10, g11, g12, .int k13, g14, .int k15, g16, g17, g18, .ref a3, .ref a4, .ref a5, .ref a6, .ref a7, g19, g20, g21])), (a1, .inr (3, [g22, g23, g24, .ref a8, g25, g26, g27])), (a3, .inl (cB28, 6, .inl f29)), (a4, .inl (cB30, 6, .inl f31)), (a5, .inl (cB32, 6, .inl f33)), (a6, .inl (cB34, 6, .inl f35)), (a7, .inl (cB36, 6, .inl f37)), (a8, .inl (cB38, 6, .inl f39))] → va_S A s.heap H locs → lv_has ls 9 [(6, .int z452), (4, .long j453), (3, .int z454), (0, .ref a0), (1, .ref a1), (2, .int k2)] → W p l e (headSpec vX5_surestQuestion { frames := 4, cells := 0, slots := 0, locals := 95 }).room s m ([.ref a0, .ref a1, .int k2]).toArray below meth c H locs 0 0 (MQ below (va_Qi (S := Unit) (fun (r : Int32) _ => ((-2) ≤ r.toInt ∧ r.toInt ≤ 799)) (fun _ t => BC (dC, dI) A [(a0, .inr (4, [.int k9, .int k10, g11, g12, .int k13, g14, .int k15, g16, g17, g18, .ref a3, .ref a4, .ref a5, .ref a6, .ref a7, g19, g20, g21])), (a1, .inr (3, [g22, g23, g24, .ref a8, g25, g26, g27])), (a3, .inl (cB28, 6, .inl f29)), (a4, .inl (cB30, 6, .inl f31)), (a5, .inl (cB32, 6, .inl f33)), (a6, .inl (cB34, 6, .inl f35)), (a7, .inl (cB36, 6, .inl f37)), (a8, .inl (cB38, 6, .inl f39))] [] t) A) ([.ref a0, .ref a1, .int k2]).toArray s 0 0 A) (F0 m 9 ls []) := by
    intro n
    induction n with
    | zero =>
      intro z452 j453 z454 H locs ls b9_0 b9_1 hm _ _ _ _
      exact absurd hm (by omega)
    | succ n ih9 =>
      intro z452 j453 z454 H locs ls b9_0 b9_1 hm9 hP hD hS hl
      refine lv_iload hx hb dX5_surestQuestion_9 (lv_at hl 0 rfl) ?_
      refine lv_aload_n hx hb dX5_surestQuestion_11 rfl (lv_at hl 3 rfl) ?_
      refine cl_i (wc := [(a0, .inr (4, [.int k9, .int k10, g11, g12, .int k13, g14, .int k15, g16, g17, g18, .ref a3, .ref a4, .ref a5, .ref a6, .ref a7, g19, g20, g21]))]) (wr := [(a1, .inr (3, [g22, g23, g24, .ref a8, g25, g26, g27])), (a3, .inl (cB28, 6, .inl f29)), (a4, .inl (cB30, 6, .inl f31)), (a5, .inl (cB32, 6, .inl f33)), (a6, .inl (cB34, 6, .inl f35)), (a7, .inl (cB36, 6, .inl f37)), (a8, .inl (cB38, 6, .inl f39))]) (va_runV (As := []) (rest := [.int z452]) ⟨hx, hb, hml, hown, hts⟩ (kX6_questionBound l dC dI a0 k9 (.int k10) (g11) (g12) (.int k13) (g14) (.int k15) (g16) (g17) (g18) (.ref a3) (.ref a4) (.ref a5) (.ref a6) (.ref a7) (g19) (g20) (g21) (by first | omega | (simp only [ltv_0]; omega)) H.size) (cwV 0 hts gX5_surestQuestion_0 rfl rfl rfl (by decide +kernel) ⟨Nat.le_of_ble_eq_true rfl, Nat.le_of_ble_eq_true rfl⟩) (PV (hP.sub (ws' := [(a0, .inr (4, [.int k9, .int k10, g11, g12, .int k13, g14, .int k15, g16, g17, g18, .ref a3, .ref a4, .ref a5, .ref a6, .ref a7, g19, g20, g21]))]) [0] rfl) (hK.sub (tys' := []) [] rfl) (hD.sub (ws' := [(a0, .inr (4, [.int k9, .int k10, g11, g12, .int k13, g14, .int k15, g16, g17, g18, .ref a3, .ref a4, .ref a5, .ref a6, .ref a7, g19, g20, g21]))]) [0] (by decide) rfl) hN 0 rfl rfl) rfl rfl hl.1 rfl (lv_room (Nat.le_of_ble_eq_true rfl)) dX5_surestQuestion_12 ⟨Nat.le_of_ble_eq_true rfl, Nat.le_of_ble_eq_true rfl⟩) hP hD hK hS hA [0] [1, 2, 3, 4, 5, 6, 7] rfl rfl (by decide) (by decide) (fun z456 _u H locs hw hP hD hK hS => ?_)
      have b457 := hw
      have hP : va_P (dC, dI) vwCl [(a1, .inr (3, [g22, g23, g24, .ref a8, g25, g26, g27])), (a3, .inl (cB28, 6, .inl f29)), (a4, .inl (cB30, 6, .inl f31)), (a5, .inl (cB32, 6, .inl f33)), (a6, .inl (cB34, 6, .inl f35)), (a7, .inl (cB36, 6, .inl f37)), (a8, .inl (cB38, 6, .inl f39)), (a0, .inr (4, [.int k9, .int k10, g11, g12, .int k13, g14, .int k15, g16, g17, g18, .ref a3, .ref a4, .ref a5, .ref a6, .ref a7, g19, g20, g21]))] H := hP
      have hD : va_D A [(a1, .inr (3, [g22, g23, g24, .ref a8, g25, g26, g27])), (a3, .inl (cB28, 6, .inl f29)), (a4, .inl (cB30, 6, .inl f31)), (a5, .inl (cB32, 6, .inl f33)), (a6, .inl (cB34, 6, .inl f35)), (a7, .inl (cB36, 6, .inl f37)), (a8, .inl (cB38, 6, .inl f39)), (a0, .inr (4, [.int k9, .int k10, g11, g12, .int k13, g14, .int k15, g16, g17, g18, .ref a3, .ref a4, .ref a5, .ref a6, .ref a7, g19, g20, g21]))] := hD
      have hK : va_K (dC, dI) vwCl [(cB28, .int), (cB30, .int), (cB32, .int), (cB34, .int), (cB36, .int), (cB38, .int)] s := hK
      refine lv_icmp_ge (tgt := 62) hx hb dX5_surestQuestion_15 (by decide) (fun c458 => ?_) (fun c458 => ?_)
      · simp only [fa_lt, fa_le, fa_eq, ltv_0] at c458
        refine lv_iload_n hx hb dX5_surestQuestion_62 rfl (lv_at hl 2 rfl) ?_
        have hP9 := hP.sub (ws' := [(a0, .inr (4, [.int k9, .int k10, g11, g12, .int k13, g14, .int k15, g16, g17, g18, .ref a3, .ref a4, .ref a5, .ref a6, .ref a7, g19, g20, g21])), (a1, .inr (3, [g22, g23, g24, .ref a8, g25, g26, g27])), (a3, .inl (cB28, 6, .inl f29)), (a4, .inl (cB30, 6, .inl f31)), (a5, .inl (cB32, 6, .inl f33)), (a6, .inl (cB34, 6, .inl f35)), (a7, .inl (cB36, 6, .inl f37)), (a8, .inl (cB38, 6, .inl f39))]) [7, 0, 1, 2, 3, 4, 5, 6] rfl
        have hD9 := hD.sub (ws' := [(a0, .inr (4, [.int k9, .int k10, g11, g12, .int k13, g14, .int k15, g16, g17, g18, .ref a3, .ref a4, .ref a5, .ref a6, .ref a7, g19, g20, g21])), (a1, .inr (3, [g22, g23, g24, .ref a8, g25, g26, g27])), (a3, .inl (cB28, 6, .inl f29)), (a4, .inl (cB30, 6, .inl f31)), (a5, .inl (cB32, 6, .inl f33)), (a6, .inl (cB34, 6, .inl f35)), (a7, .inl (cB36, 6, .inl f37)), (a8, .inl (cB38, 6, .inl f39))]) [7, 0, 1, 2, 3, 4, 5, 6] (by decide) rfl
        have hK9 := hK.sub (tys' := []) [] rfl
        exact W.iret (v := z454) hx hb hr (fun t ht hW => ⟨⟨z454, (), rfl, (by first | trivial | omega | (simp only [ltv_0]; omega)), by rw [ht]; exact hP9, va_K.moved hW.alike hK9, hD9⟩, hS.F ht⟩) hS.2.2 dX5_surestQuestion_63
      · simp only [fa_lt, fa_le, fa_eq, ltv_0] at c458
        refine lv_aload_n hx hb dX5_surestQuestion_18 rfl (lv_at hl 3 rfl) ?_
        refine lv_iload hx hb dX5_surestQuestion_19 (lv_at hl 0 rfl) ?_
        refine cl_i (wc := [(a0, .inr (4, [.int k9, .int k10, g11, g12, .int k13, g14, .int k15, g16, g17, g18, .ref a3, .ref a4, .ref a5, .ref a6, .ref a7, g19, g20, g21]))]) (wr := [(a1, .inr (3, [g22, g23, g24, .ref a8, g25, g26, g27])), (a3, .inl (cB28, 6, .inl f29)), (a4, .inl (cB30, 6, .inl f31)), (a5, .inl (cB32, 6, .inl f33)), (a6, .inl (cB34, 6, .inl f35)), (a7, .inl (cB36, 6, .inl f37)), (a8, .inl (cB38, 6, .inl f39))]) (va_runV (As := [.int z452]) (rest := []) ⟨hx, hb, hml, hown, hts⟩ (kX6_hasQuestion l dC dI a0 z452 k9 k10 (g11) (g12) k13 (g14) (.int k15) (g16) (g17) (g18) (.ref a3) (.ref a4) (.ref a5) (.ref a6) (.ref a7) (g19) (g20) (g21) (by first | omega | (simp only [ltv_0]; omega)) (by first | omega | (simp only [ltv_0]; omega)) (by first | omega | (simp only [ltv_0]; omega)) H.size) (cwV 1 hts gX5_surestQuestion_1 rfl rfl rfl (by decide +kernel) ⟨Nat.le_of_ble_eq_true rfl, Nat.le_of_ble_eq_true rfl⟩) (PV (hP.sub (ws' := [(a0, .inr (4, [.int k9, .int k10, g11, g12, .int k13, g14, .int k15, g16, g17, g18, .ref a3, .ref a4, .ref a5, .ref a6, .ref a7, g19, g20, g21]))]) [7] rfl) (hK.sub (tys' := []) [] rfl) (hD.sub (ws' := [(a0, .inr (4, [.int k9, .int k10, g11, g12, .int k13, g14, .int k15, g16, g17, g18, .ref a3, .ref a4, .ref a5, .ref a6, .ref a7, g19, g20, g21]))]) [7] (by decide) rfl) hN 0 rfl rfl) rfl rfl hl.1 rfl (lv_room (Nat.le_of_ble_eq_true rfl)) dX5_surestQuestion_21 ⟨Nat.le_of_ble_eq_true rfl, Nat.le_of_ble_eq_true rfl⟩) hP hD hK hS hA [7] [0, 1, 2, 3, 4, 5, 6] rfl rfl (by decide) (by decide) (fun z459 _u H locs hw hP hD hK hS => ?_)
        have b460 := hw
        have hP : va_P (dC, dI) vwCl [(a1, .inr (3, [g22, g23, g24, .ref a8, g25, g26, g27])), (a3, .inl (cB28, 6, .inl f29)), (a4, .inl (cB30, 6, .inl f31)), (a5, .inl (cB32, 6, .inl f33)), (a6, .inl (cB34, 6, .inl f35)), (a7, .inl (cB36, 6, .inl f37)), (a8, .inl (cB38, 6, .inl f39)), (a0, .inr (4, [.int k9, .int k10, g11, g12, .int k13, g14, .int k15, g16, g17, g18, .ref a3, .ref a4, .ref a5, .ref a6, .ref a7, g19, g20, g21]))] H := hP
        have hD : va_D A [(a1, .inr (3, [g22, g23, g24, .ref a8, g25, g26, g27])), (a3, .inl (cB28, 6, .inl f29)), (a4, .inl (cB30, 6, .inl f31)), (a5, .inl (cB32, 6, .inl f33)), (a6, .inl (cB34, 6, .inl f35)), (a7, .inl (cB36, 6, .inl f37)), (a8, .inl (cB38, 6, .inl f39)), (a0, .inr (4, [.int k9, .int k10, g11, g12, .int k13, g14, .int k15, g16, g17, g18, .ref a3, .ref a4, .ref a5, .ref a6, .ref a7, g19, g20, g21]))] := hD
        have hK : va_K (dC, dI) vwCl [(cB28, .int), (cB30, .int), (cB32, .int), (cB34, .int), (cB36, .int), (cB38, .int)] s := hK
        refine lv_if_eq (tgt := 38) hx hb dX5_surestQuestion_24 (by decide) (fun c461 => ?_) (fun c461 => ?_)
        · simp only [fa_lt, fa_le, fa_eq, ltv_0] at c461
          refine lv_lconst (v := 0) hx hb dX5_surestQuestion_38 (by decide) ?_
          refine lv_lstore (lv' := [(7, .long 0), (6, .int z452), (4, .long j453), (3, .int z454), (0, .ref a0), (1, .ref a1), (2, .int k2)]) hx hb dX5_surestQuestion_39 hl (by decide) rfl (fun ls hl => ?_)
          refine lv_lload hx hb dX5_surestQuestion_41 (lv_at hl 0 rfl) ?_
          refine lv_lload hx hb dX5_surestQuestion_43 (lv_at hl 2 rfl) ?_
          refine W.lcmp hx hb dX5_surestQuestion_45 ?_
          refine lv_topi (fun z462 ez462 => ?_)
          refine lv_if_le (tgt := 56) hx hb dX5_surestQuestion_46 (by decide) (fun c463 => ?_) (fun c463 => ?_)
          · clear c463
            obtain ⟨z464, ez464⟩ : ∃ y : Int32, y = z452 + 1 := ⟨_, rfl⟩
            have tz464 : z464.toInt = z452.toInt + 1 := by rw [ez464, iadd_t (by simp only [ltv_1]; omega) (by simp only [ltv_1]; omega)]; simp only [ltv_1]
            refine lv_iinc (v := z464) (lv' := [(6, .int z464), (7, .long 0), (4, .long j453), (3, .int z454), (0, .ref a0), (1, .ref a1), (2, .int k2)]) hx hb dX5_surestQuestion_56 hl (k := 1) rfl (by rw [ez464]; rfl) (by decide) rfl (fun ls hl => ?_)
            refine lv_goto (tgt := 9) hx hb dX5_surestQuestion_59 (by decide) ?_
            exact ih9 z464 j453 z454 H locs ls (by first | omega | (simp only [ltv_0]; omega)) (by first | omega | (simp only [ltv_0]; omega)) (by first | omega | (simp only [ltv_0]; omega)) (hP.sub (ws' := [(a0, .inr (4, [.int k9, .int k10, g11, g12, .int k13, g14, .int k15, g16, g17, g18, .ref a3, .ref a4, .ref a5, .ref a6, .ref a7, g19, g20, g21])), (a1, .inr (3, [g22, g23, g24, .ref a8, g25, g26, g27])), (a3, .inl (cB28, 6, .inl f29)), (a4, .inl (cB30, 6, .inl f31)), (a5, .inl (cB32, 6, .inl f33)), (a6, .inl (cB34, 6, .inl f35)), (a7, .inl (cB36, 6, .inl f37)), (a8, .inl (cB38, 6, .inl f39))]) [7, 0, 1, 2, 3, 4, 5, 6] rfl) (hD.sub (ws' := [(a0, .inr (4, [.int k9, .int k10, g11, g12, .int k13, g14, .int k15, g16, g17, g18, .ref a3, .ref a4, .ref a5, .ref a6, .ref a7, g19, g20, g21])), (a1, .inr (3, [g22, g23, g24, .ref a8, g25, g26, g27])), (a3, .inl (cB28, 6, .inl f29)), (a4, .inl (cB30, 6, .inl f31)), (a5, .inl (cB32, 6, .inl f33)), (a6, .inl (cB34, 6, .inl f35)), (a7, .inl (cB36, 6, .inl f37)), (a8, .inl (cB38, 6, .inl f39))]) [7, 0, 1, 2, 3, 4, 5, 6] (by decide) rfl) hS (lv_sub hl [0, 2, 3, 4, 5, 6] rfl)
          · clear c463
            refine lv_lload hx hb dX5_surestQuestion_49 (lv_at hl 0 rfl) ?_
            refine lv_lstore (lv' := [(4, .long 0), (7, .long 0), (6, .int z452), (3, .int z454), (0, .ref a0), (1, .ref a1), (2, .int k2)]) hx hb dX5_surestQuestion_51 hl (by decide) rfl (fun ls hl => ?_)
            refine lv_iload hx hb dX5_surestQuestion_53 (lv_at hl 2 rfl) ?_
            refine lv_istore_n (lv' := [(3, .int z452), (4, .long 0), (7, .long 0), (6, .int z452), (0, .ref a0), (1, .ref a1), (2, .int k2)]) hx hb dX5_surestQuestion_55 rfl hl (by decide) rfl (fun ls hl => ?_)
            obtain ⟨z465, ez465⟩ : ∃ y : Int32, y = z452 + 1 := ⟨_, rfl⟩
            have tz465 : z465.toInt = z452.toInt + 1 := by rw [ez465, iadd_t (by simp only [ltv_1]; omega) (by simp only [ltv_1]; omega)]; simp only [ltv_1]
            refine lv_iinc (v := z465) (lv' := [(6, .int z465), (3, .int z452), (4, .long 0), (7, .long 0), (0, .ref a0), (1, .ref a1), (2, .int k2)]) hx hb dX5_surestQuestion_56 hl (k := 3) rfl (by rw [ez465]; rfl) (by decide) rfl (fun ls hl => ?_)
            refine lv_goto (tgt := 9) hx hb dX5_surestQuestion_59 (by decide) ?_
            exact ih9 z465 (0) z452 H locs ls (by first | omega | (simp only [ltv_0]; omega)) (by first | omega | (simp only [ltv_0]; omega)) (by first | omega | (simp only [ltv_0]; omega)) (hP.sub (ws' := [(a0, .inr (4, [.int k9, .int k10, g11, g12, .int k13, g14, .int k15, g16, g17, g18, .ref a3, .ref a4, .ref a5, .ref a6, .ref a7, g19, g20, g21])), (a1, .inr (3, [g22, g23, g24, .ref a8, g25, g26, g27])), (a3, .inl (cB28, 6, .inl f29)), (a4, .inl (cB30, 6, .inl f31)), (a5, .inl (cB32, 6, .inl f33)), (a6, .inl (cB34, 6, .inl f35)), (a7, .inl (cB36, 6, .inl f37)), (a8, .inl (cB38, 6, .inl f39))]) [7, 0, 1, 2, 3, 4, 5, 6] rfl) (hD.sub (ws' := [(a0, .inr (4, [.int k9, .int k10, g11, g12, .int k13, g14, .int k15, g16, g17, g18, .ref a3, .ref a4, .ref a5, .ref a6, .ref a7, g19, g20, g21])), (a1, .inr (3, [g22, g23, g24, .ref a8, g25, g26, g27])), (a3, .inl (cB28, 6, .inl f29)), (a4, .inl (cB30, 6, .inl f31)), (a5, .inl (cB32, 6, .inl f33)), (a6, .inl (cB34, 6, .inl f35)), (a7, .inl (cB36, 6, .inl f37)), (a8, .inl (cB38, 6, .inl f39))]) [7, 0, 1, 2, 3, 4, 5, 6] (by decide) rfl) hS (lv_sub hl [0, 2, 1, 4, 5, 6] rfl)
        · simp only [fa_lt, fa_le, fa_eq, ltv_0] at c461
          refine lv_aload_n hx hb dX5_surestQuestion_27 rfl (lv_at hl 3 rfl) ?_
          refine lv_aload_n hx hb dX5_surestQuestion_28 rfl (lv_at hl 4 rfl) ?_
          refine lv_iload_n hx hb dX5_surestQuestion_29 rfl (lv_at hl 5 rfl) ?_
          refine lv_iload hx hb dX5_surestQuestion_30 (lv_at hl 0 rfl) ?_
          refine cl_l (wc := [(a0, .inr (4, [.int k9, .int k10, g11, g12, .int k13, g14, .int k15, g16, g17, g18, .ref a3, .ref a4, .ref a5, .ref a6, .ref a7, g19, g20, g21])), (a1, .inr (3, [g22, g23, g24, .ref a8, g25, g26, g27])), (a3, .inl (cB28, 6, .inl f29)), (a4, .inl (cB30, 6, .inl f31)), (a5, .inl (cB32, 6, .inl f33)), (a6, .inl (cB34, 6, .inl f35)), (a7, .inl (cB36, 6, .inl f37)), (a8, .inl (cB38, 6, .inl f39))]) (wr := []) (va_runS (As := [.ref a0, .ref a1, .int k2, .int z452]) (rest := []) ⟨hx, hb, hml, hown, hts⟩ (kX5_chance l dC dI a0 a1 k2 z452 a3 a4 a5 a6 a7 a8 (.int k9) (.int k10) (g11) (g12) (.int k13) (g14) k15 (g16) (g17) (g18) (g19) (g20) (g21) (g22) (g23) (g24) (g25) (g26) (g27) cB28 f29 cB30 f31 cB32 f33 cB34 f35 cB36 f37 cB38 f39 (by first | omega | (simp only [ltv_0]; omega)) H.size) (va_cwS 4 hts gX5_surestQuestion_2 rfl rfl rfl (by decide +kernel) ⟨Nat.le_of_ble_eq_true rfl, Nat.le_of_ble_eq_true rfl⟩) (PS (hP.sub (ws' := [(a0, .inr (4, [.int k9, .int k10, g11, g12, .int k13, g14, .int k15, g16, g17, g18, .ref a3, .ref a4, .ref a5, .ref a6, .ref a7, g19, g20, g21])), (a1, .inr (3, [g22, g23, g24, .ref a8, g25, g26, g27])), (a3, .inl (cB28, 6, .inl f29)), (a4, .inl (cB30, 6, .inl f31)), (a5, .inl (cB32, 6, .inl f33)), (a6, .inl (cB34, 6, .inl f35)), (a7, .inl (cB36, 6, .inl f37)), (a8, .inl (cB38, 6, .inl f39))]) [7, 0, 1, 2, 3, 4, 5, 6] rfl) (hK.sub (tys' := [(cB28, .int), (cB30, .int), (cB32, .int), (cB34, .int), (cB36, .int), (cB38, .int)]) [0, 1, 2, 3, 4, 5] rfl) (hD.sub (ws' := [(a0, .inr (4, [.int k9, .int k10, g11, g12, .int k13, g14, .int k15, g16, g17, g18, .ref a3, .ref a4, .ref a5, .ref a6, .ref a7, g19, g20, g21])), (a1, .inr (3, [g22, g23, g24, .ref a8, g25, g26, g27])), (a3, .inl (cB28, 6, .inl f29)), (a4, .inl (cB30, 6, .inl f31)), (a5, .inl (cB32, 6, .inl f33)), (a6, .inl (cB34, 6, .inl f35)), (a7, .inl (cB36, 6, .inl f37)), (a8, .inl (cB38, 6, .inl f39))]) [7, 0, 1, 2, 3, 4, 5, 6] (by decide) rfl) hN) rfl rfl hl.1 rfl (lv_room (Nat.le_of_ble_eq_true rfl)) dX5_surestQuestion_32 ⟨Nat.le_of_ble_eq_true rfl, Nat.le_of_ble_eq_true rfl⟩) hP hD hK hS hA [7, 0, 1, 2, 3, 4, 5, 6] [] rfl rfl (by decide) (by decide) (fun z466 _u H locs hw hP hD hK hS => ?_)
          have b467 := hw
          have hP : va_P (dC, dI) vwCl [(a0, .inr (4, [.int k9, .int k10, g11, g12, .int k13, g14, .int k15, g16, g17, g18, .ref a3, .ref a4, .ref a5, .ref a6, .ref a7, g19, g20, g21])), (a1, .inr (3, [g22, g23, g24, .ref a8, g25, g26, g27])), (a3, .inl (cB28, 6, .inl f29)), (a4, .inl (cB30, 6, .inl f31)), (a5, .inl (cB32, 6, .inl f33)), (a6, .inl (cB34, 6, .inl f35)), (a7, .inl (cB36, 6, .inl f37)), (a8, .inl (cB38, 6, .inl f39))] H := hP
          have hD : va_D A [(a0, .inr (4, [.int k9, .int k10, g11, g12, .int k13, g14, .int k15, g16, g17, g18, .ref a3, .ref a4, .ref a5, .ref a6, .ref a7, g19, g20, g21])), (a1, .inr (3, [g22, g23, g24, .ref a8, g25, g26, g27])), (a3, .inl (cB28, 6, .inl f29)), (a4, .inl (cB30, 6, .inl f31)), (a5, .inl (cB32, 6, .inl f33)), (a6, .inl (cB34, 6, .inl f35)), (a7, .inl (cB36, 6, .inl f37)), (a8, .inl (cB38, 6, .inl f39))] := hD
          have hK : va_K (dC, dI) vwCl [(cB28, .int), (cB30, .int), (cB32, .int), (cB34, .int), (cB36, .int), (cB38, .int)] s := hK
          refine lv_goto (tgt := 39) hx hb dX5_surestQuestion_35 (by decide) ?_
          refine lv_lstore (lv' := [(7, .long z466), (6, .int z452), (4, .long j453), (3, .int z454), (0, .ref a0), (1, .ref a1), (2, .int k2)]) hx hb dX5_surestQuestion_39 hl (by decide) rfl (fun ls hl => ?_)
          refine lv_lload hx hb dX5_surestQuestion_41 (lv_at hl 0 rfl) ?_
          refine lv_lload hx hb dX5_surestQuestion_43 (lv_at hl 2 rfl) ?_
          refine W.lcmp hx hb dX5_surestQuestion_45 ?_
          refine lv_topi (fun z468 ez468 => ?_)
          refine lv_if_le (tgt := 56) hx hb dX5_surestQuestion_46 (by decide) (fun c469 => ?_) (fun c469 => ?_)
          · clear c469
            obtain ⟨z470, ez470⟩ : ∃ y : Int32, y = z452 + 1 := ⟨_, rfl⟩
            have tz470 : z470.toInt = z452.toInt + 1 := by rw [ez470, iadd_t (by simp only [ltv_1]; omega) (by simp only [ltv_1]; omega)]; simp only [ltv_1]
            refine lv_iinc (v := z470) (lv' := [(6, .int z470), (7, .long z466), (4, .long j453), (3, .int z454), (0, .ref a0), (1, .ref a1), (2, .int k2)]) hx hb dX5_surestQuestion_56 hl (k := 1) rfl (by rw [ez470]; rfl) (by decide) rfl (fun ls hl => ?_)
            refine lv_goto (tgt := 9) hx hb dX5_surestQuestion_59 (by decide) ?_
            exact ih9 z470 j453 z454 H locs ls (by first | omega | (simp only [ltv_0]; omega)) (by first | omega | (simp only [ltv_0]; omega)) (by first | omega | (simp only [ltv_0]; omega)) hP hD hS (lv_sub hl [0, 2, 3, 4, 5, 6] rfl)
          · clear c469
            refine lv_lload hx hb dX5_surestQuestion_49 (lv_at hl 0 rfl) ?_
            refine lv_lstore (lv' := [(4, .long z466), (7, .long z466), (6, .int z452), (3, .int z454), (0, .ref a0), (1, .ref a1), (2, .int k2)]) hx hb dX5_surestQuestion_51 hl (by decide) rfl (fun ls hl => ?_)
            refine lv_iload hx hb dX5_surestQuestion_53 (lv_at hl 2 rfl) ?_
            refine lv_istore_n (lv' := [(3, .int z452), (4, .long z466), (7, .long z466), (6, .int z452), (0, .ref a0), (1, .ref a1), (2, .int k2)]) hx hb dX5_surestQuestion_55 rfl hl (by decide) rfl (fun ls hl => ?_)
            obtain ⟨z471, ez471⟩ : ∃ y : Int32, y = z452 + 1 := ⟨_, rfl⟩
            have tz471 : z471.toInt = z452.toInt + 1 := by rw [ez471, iadd_t (by simp only [ltv_1]; omega) (by simp only [ltv_1]; omega)]; simp only [ltv_1]
            refine lv_iinc (v := z471) (lv' := [(6, .int z471), (3, .int z452), (4, .long z466), (7, .long z466), (0, .ref a0), (1, .ref a1), (2, .int k2)]) hx hb dX5_surestQuestion_56 hl (k := 3) rfl (by rw [ez471]; rfl) (by decide) rfl (fun ls hl => ?_)
            refine lv_goto (tgt := 9) hx hb dX5_surestQuestion_59 (by decide) ?_
            exact ih9 z471 z466 z452 H locs ls (by first | omega | (simp only [ltv_0]; omega)) (by first | omega | (simp only [ltv_0]; omega)) (by first | omega | (simp only [ltv_0]; omega)) hP hD hS (lv_sub hl [0, 2, 1, 4, 5, 6] rfl)
  exact L9_455 801 (0) (0) ((-2)) s.heap _ ls (by first | omega | (simp only [ltv_m2, ltv_0]; omega)) (by first | omega | (simp only [ltv_m2, ltv_0]; omega)) (by first | omega | (simp only [ltv_m2, ltv_0]; omega)) hP hD hS (lv_sub hl [0, 1, 2, 3, 4, 5] rfl)
theorem dX5_worthiestQuestion_0 : decode cX5_worthiestQuestion 0 = .ok (.bipush (-2), 2) := by decide +kernel
theorem dX5_worthiestQuestion_10 : decode cX5_worthiestQuestion 10 = .ok (.aload_n 0, 1) := by decide +kernel
theorem dX5_worthiestQuestion_11 : decode cX5_worthiestQuestion 11 = .ok (.invokevirtual 41, 3) := by decide +kernel
theorem dX5_worthiestQuestion_14 : decode cX5_worthiestQuestion 14 = .ok (.if_icmp .ge 44, 3) := by decide +kernel
theorem dX5_worthiestQuestion_17 : decode cX5_worthiestQuestion 17 = .ok (.aload_n 0, 1) := by decide +kernel
theorem dX5_worthiestQuestion_18 : decode cX5_worthiestQuestion 18 = .ok (.iload 5, 2) := by decide +kernel
theorem dX5_worthiestQuestion_2 : decode cX5_worthiestQuestion 2 = .ok (.istore_n 2, 1) := by decide +kernel
theorem dX5_worthiestQuestion_20 : decode cX5_worthiestQuestion 20 = .ok (.invokevirtual 45, 3) := by decide +kernel
theorem dX5_worthiestQuestion_23 : decode cX5_worthiestQuestion 23 = .ok (.ifCond .eq 13, 3) := by decide +kernel
theorem dX5_worthiestQuestion_26 : decode cX5_worthiestQuestion 26 = .ok (.aload_n 0, 1) := by decide +kernel
theorem dX5_worthiestQuestion_27 : decode cX5_worthiestQuestion 27 = .ok (.aload_n 1, 1) := by decide +kernel
theorem dX5_worthiestQuestion_28 : decode cX5_worthiestQuestion 28 = .ok (.iload 5, 2) := by decide +kernel
theorem dX5_worthiestQuestion_3 : decode cX5_worthiestQuestion 3 = .ok (.lconst 0, 1) := by decide +kernel
theorem dX5_worthiestQuestion_30 : decode cX5_worthiestQuestion 30 = .ok (.invokestatic 49, 3) := by decide +kernel
theorem dX5_worthiestQuestion_33 : decode cX5_worthiestQuestion 33 = .ok (.goto 4, 3) := by decide +kernel
theorem dX5_worthiestQuestion_36 : decode cX5_worthiestQuestion 36 = .ok (.lconst 0, 1) := by decide +kernel
theorem dX5_worthiestQuestion_37 : decode cX5_worthiestQuestion 37 = .ok (.lstore 6, 2) := by decide +kernel
theorem dX5_worthiestQuestion_39 : decode cX5_worthiestQuestion 39 = .ok (.lload 6, 2) := by decide +kernel
theorem dX5_worthiestQuestion_4 : decode cX5_worthiestQuestion 4 = .ok (.lstore_n 3, 1) := by decide +kernel
theorem dX5_worthiestQuestion_41 : decode cX5_worthiestQuestion 41 = .ok (.lload_n 3, 1) := by decide +kernel
theorem dX5_worthiestQuestion_42 : decode cX5_worthiestQuestion 42 = .ok (.lcmp, 1) := by decide +kernel
theorem dX5_worthiestQuestion_43 : decode cX5_worthiestQuestion 43 = .ok (.ifCond .le 9, 3) := by decide +kernel
theorem dX5_worthiestQuestion_46 : decode cX5_worthiestQuestion 46 = .ok (.lload 6, 2) := by decide +kernel
theorem dX5_worthiestQuestion_48 : decode cX5_worthiestQuestion 48 = .ok (.lstore_n 3, 1) := by decide +kernel
theorem dX5_worthiestQuestion_49 : decode cX5_worthiestQuestion 49 = .ok (.iload 5, 2) := by decide +kernel
theorem dX5_worthiestQuestion_5 : decode cX5_worthiestQuestion 5 = .ok (.iconst 0, 1) := by decide +kernel
theorem dX5_worthiestQuestion_51 : decode cX5_worthiestQuestion 51 = .ok (.istore_n 2, 1) := by decide +kernel
theorem dX5_worthiestQuestion_52 : decode cX5_worthiestQuestion 52 = .ok (.iinc 5 1, 3) := by decide +kernel
theorem dX5_worthiestQuestion_55 : decode cX5_worthiestQuestion 55 = .ok (.goto (-47), 3) := by decide +kernel
theorem dX5_worthiestQuestion_58 : decode cX5_worthiestQuestion 58 = .ok (.iload_n 2, 1) := by decide +kernel
theorem dX5_worthiestQuestion_59 : decode cX5_worthiestQuestion 59 = .ok (.ireturn, 1) := by decide +kernel
theorem dX5_worthiestQuestion_6 : decode cX5_worthiestQuestion 6 = .ok (.istore 5, 2) := by decide +kernel
theorem dX5_worthiestQuestion_8 : decode cX5_worthiestQuestion 8 = .ok (.iload 5, 2) := by decide +kernel
def vX5_worthiestQuestion : List Cond := .code yX5_worthiestQuestion cX5_worthiestQuestion 8 (some .int) :: ([.methodLink RX5 41 yX6_questionBound, .instanceMethod yX6_questionBound, .selects RX6 yX6_questionBound yX6_questionBound, .initialized RX6, .code yX6_questionBound cX6_questionBound 1 (some .int), .fieldLink RX6 9 "HookPier$Plan" "spots" "I", .methodLink RX5 45 yX6_hasQuestion, .instanceMethod yX6_hasQuestion, .selects RX6 yX6_hasQuestion yX6_hasQuestion, .code yX6_hasQuestion cX6_hasQuestion 2 (some .boolean), .code yX10_spotOf cX10_spotOf 1 (some .int), .initialized RX10, .static yX10_spotOf, .methodLink RX6 76 yX6_hasSpot, .instanceMethod yX6_hasSpot, .selects RX6 yX6_hasSpot yX6_hasSpot, .code yX6_hasSpot cX6_hasSpot 2 (some .boolean), .code yX10_within cX10_within 3 (some .boolean), .static yX10_within, .code yX10_fathomsOf cX10_fathomsOf 1 (some .int), .static yX10_fathomsOf, .fieldLink RX6 15 "HookPier$Plan" "deep" "I", .code yX10_baitOf cX10_baitOf 1 (some .int), .static yX10_baitOf, .methodLink RX6 86 yX6_hasBait, .instanceMethod yX6_hasBait, .selects RX6 yX6_hasBait yX6_hasBait, .code yX6_hasBait cX6_hasBait 2 (some .boolean), .fieldLink RX6 24 "HookPier$Plan" "baits" "I", .methodLink RX5 49 yX5_meanWorth, .static yX5_meanWorth, .initialized RX5, .code yX5_meanWorth cX5_meanWorth 6 (some .long), .fieldLink RX5 11 "HookPier$Plan" "answers" "I", .fieldLink RX5 29 "HookPier$Plan" "kind" "[I", .fieldLink RX5 32 "HookPier$Plan" "told" "[I", .methodLink RX5 35 yX5_chance, .static yX5_chance, .code yX5_chance cX5_chance 9 (some .long), .constantLong RX5 9 (1000000000000), .fieldLink RX5 17 "HookPier$Now" "stage" "[I", .constantLong RX5 23 (100), .methodLink RX5 25 yX6_wishFor, .instanceMethod yX6_wishFor, .selects RX6 yX6_wishFor yX6_wishFor, .code yX6_wishFor cX6_wishFor 3 (some .int), .fieldLink RX6 52 "HookPier$Plan" "hunger" "[I", .methodLink RX6 94 yX6_wishBy, .instanceMethod yX6_wishBy, .selects RX6 yX6_wishBy yX6_wishBy, .code yX6_wishBy cX6_wishBy 5 (some .int), .fieldLink RX6 46 "HookPier$Plan" "at" "[I", .methodLink RX6 89 Lib.Math.abs.name, .static Lib.Math.abs.name, .initialized "java/lang/Math", .code Lib.Math.abs.name Lib.Math.abs.code 1 (some .int), .fieldLink RX6 43 "HookPier$Plan" "kind" "[I", .fieldLink RX6 55 "HookPier$Plan" "likes" "[I", .methodLink RX6 98 Lib.Math.min.name, .static Lib.Math.min.name, .code Lib.Math.min.name Lib.Math.min.code 2 (some .int), .methodLink RX6 102 Lib.Math.max.name, .static Lib.Math.max.name, .code Lib.Math.max.name Lib.Math.max.code 2 (some .int), .fieldLink RX6 49 "HookPier$Plan" "depth" "[I"] ++ wsX60 ++ wsX40)
theorem iX5_worthiestQuestion_X6 : ∀ w ∈ wsX60, w ∈ vX5_worthiestQuestion := fun _ h => List.mem_cons_of_mem _ (List.mem_append_left _ (List.mem_append_right _ h))
theorem iX5_worthiestQuestion_X4 : ∀ w ∈ wsX40, w ∈ vX5_worthiestQuestion := fun _ h => List.mem_cons_of_mem _ (List.mem_append_right _ h)
set_option maxRecDepth 20000 in
theorem gX5_worthiestQuestion_0 : GoodIn vX5_worthiestQuestion (wsV RX5 41 RX6 yX6_questionBound vX6_questionBound) := goodIn_app (goodIn_r [.methodLink RX5 41 yX6_questionBound, .instanceMethod yX6_questionBound, .selects RX6 yX6_questionBound yX6_questionBound, .initialized RX6] [1, 2, 3, 4] (by decide +kernel) (by decide +kernel)) (goodIn_ca (goodIn_r (.code yX6_questionBound cX6_questionBound 1 (some .int) :: [.fieldLink RX6 9 "HookPier$Plan" "spots" "I"]) [5, 6] (by decide +kernel) (by decide +kernel) : GoodIn vX5_worthiestQuestion (.code yX6_questionBound cX6_questionBound 1 (some .int) :: [.fieldLink RX6 9 "HookPier$Plan" "spots" "I"])) (goodIn_sub iX5_worthiestQuestion_X6 (by decide +kernel)))
set_option maxRecDepth 20000 in
theorem gX5_worthiestQuestion_1 : GoodIn vX5_worthiestQuestion (wsV RX5 45 RX6 yX6_hasQuestion vX6_hasQuestion) := goodIn_app (goodIn_r [.methodLink RX5 45 yX6_hasQuestion, .instanceMethod yX6_hasQuestion, .selects RX6 yX6_hasQuestion yX6_hasQuestion, .initialized RX6] [7, 8, 9, 4] (by decide +kernel) (by decide +kernel)) (goodIn_ca (goodIn_r (.code yX6_hasQuestion cX6_hasQuestion 2 (some .boolean) :: [.code yX10_spotOf cX10_spotOf 1 (some .int), .initialized RX10, .static yX10_spotOf, .methodLink RX6 76 yX6_hasSpot, .instanceMethod yX6_hasSpot, .selects RX6 yX6_hasSpot yX6_hasSpot, .initialized RX6, .code yX6_hasSpot cX6_hasSpot 2 (some .boolean), .fieldLink RX6 9 "HookPier$Plan" "spots" "I", .code yX10_within cX10_within 3 (some .boolean), .static yX10_within, .code yX10_fathomsOf cX10_fathomsOf 1 (some .int), .static yX10_fathomsOf, .fieldLink RX6 15 "HookPier$Plan" "deep" "I", .code yX10_baitOf cX10_baitOf 1 (some .int), .static yX10_baitOf, .methodLink RX6 86 yX6_hasBait, .instanceMethod yX6_hasBait, .selects RX6 yX6_hasBait yX6_hasBait, .code yX6_hasBait cX6_hasBait 2 (some .boolean), .fieldLink RX6 24 "HookPier$Plan" "baits" "I"]) [10, 11, 12, 13, 14, 15, 16, 4, 17, 6, 18, 19, 20, 21, 22, 23, 24, 25, 26, 27, 28, 29] (by decide +kernel) (by decide +kernel) : GoodIn vX5_worthiestQuestion (.code yX6_hasQuestion cX6_hasQuestion 2 (some .boolean) :: [.code yX10_spotOf cX10_spotOf 1 (some .int), .initialized RX10, .static yX10_spotOf, .methodLink RX6 76 yX6_hasSpot, .instanceMethod yX6_hasSpot, .selects RX6 yX6_hasSpot yX6_hasSpot, .initialized RX6, .code yX6_hasSpot cX6_hasSpot 2 (some .boolean), .fieldLink RX6 9 "HookPier$Plan" "spots" "I", .code yX10_within cX10_within 3 (some .boolean), .static yX10_within, .code yX10_fathomsOf cX10_fathomsOf 1 (some .int), .static yX10_fathomsOf, .fieldLink RX6 15 "HookPier$Plan" "deep" "I", .code yX10_baitOf cX10_baitOf 1 (some .int), .static yX10_baitOf, .methodLink RX6 86 yX6_hasBait, .instanceMethod yX6_hasBait, .selects RX6 yX6_hasBait yX6_hasBait, .code yX6_hasBait cX6_hasBait 2 (some .boolean), .fieldLink RX6 24 "HookPier$Plan" "baits" "I"])) (goodIn_sub iX5_worthiestQuestion_X6 (by decide +kernel)))
set_option maxRecDepth 20000 in
theorem gX5_worthiestQuestion_2 : GoodIn vX5_worthiestQuestion (va_wsS RX5 49 yX5_meanWorth vX5_meanWorth) := goodIn_app (goodIn_r [.methodLink RX5 49 yX5_meanWorth, .static yX5_meanWorth, .initialized RX5] [30, 31, 32] (by decide +kernel) (by decide +kernel)) (goodIn_ca (goodIn_ca (goodIn_r (.code yX5_meanWorth cX5_meanWorth 6 (some .long) :: [.fieldLink RX5 11 "HookPier$Plan" "answers" "I", .fieldLink RX5 29 "HookPier$Plan" "kind" "[I", .fieldLink RX5 32 "HookPier$Plan" "told" "[I", .methodLink RX5 35 yX5_chance, .static yX5_chance, .initialized RX5, .code yX5_chance cX5_chance 9 (some .long), .constantLong RX5 9 (1000000000000), .fieldLink RX5 17 "HookPier$Now" "stage" "[I", .constantLong RX5 23 (100), .methodLink RX5 25 yX6_wishFor, .instanceMethod yX6_wishFor, .selects RX6 yX6_wishFor yX6_wishFor, .initialized RX6, .code yX6_wishFor cX6_wishFor 3 (some .int), .fieldLink RX6 52 "HookPier$Plan" "hunger" "[I", .methodLink RX6 94 yX6_wishBy, .instanceMethod yX6_wishBy, .selects RX6 yX6_wishBy yX6_wishBy, .code yX6_wishBy cX6_wishBy 5 (some .int), .code yX10_spotOf cX10_spotOf 1 (some .int), .initialized RX10, .static yX10_spotOf, .fieldLink RX6 46 "HookPier$Plan" "at" "[I", .methodLink RX6 89 Lib.Math.abs.name, .static Lib.Math.abs.name, .initialized "java/lang/Math", .code Lib.Math.abs.name Lib.Math.abs.code 1 (some .int), .fieldLink RX6 43 "HookPier$Plan" "kind" "[I", .fieldLink RX6 55 "HookPier$Plan" "likes" "[I", .code yX10_baitOf cX10_baitOf 1 (some .int), .static yX10_baitOf, .methodLink RX6 98 Lib.Math.min.name, .static Lib.Math.min.name, .code Lib.Math.min.name Lib.Math.min.code 2 (some .int), .methodLink RX6 102 Lib.Math.max.name, .static Lib.Math.max.name, .code Lib.Math.max.name Lib.Math.max.code 2 (some .int), .code yX10_fathomsOf cX10_fathomsOf 1 (some .int), .static yX10_fathomsOf, .fieldLink RX6 49 "HookPier$Plan" "depth" "[I"]) [33, 34, 35, 36, 37, 38, 32, 39, 40, 41, 42, 43, 44, 45, 4, 46, 47, 48, 49, 50, 51, 11, 12, 13, 52, 53, 54, 55, 56, 57, 58, 23, 24, 59, 60, 61, 62, 63, 64, 20, 21, 65] (by decide +kernel) (by decide +kernel) : GoodIn vX5_worthiestQuestion (.code yX5_meanWorth cX5_meanWorth 6 (some .long) :: [.fieldLink RX5 11 "HookPier$Plan" "answers" "I", .fieldLink RX5 29 "HookPier$Plan" "kind" "[I", .fieldLink RX5 32 "HookPier$Plan" "told" "[I", .methodLink RX5 35 yX5_chance, .static yX5_chance, .initialized RX5, .code yX5_chance cX5_chance 9 (some .long), .constantLong RX5 9 (1000000000000), .fieldLink RX5 17 "HookPier$Now" "stage" "[I", .constantLong RX5 23 (100), .methodLink RX5 25 yX6_wishFor, .instanceMethod yX6_wishFor, .selects RX6 yX6_wishFor yX6_wishFor, .initialized RX6, .code yX6_wishFor cX6_wishFor 3 (some .int), .fieldLink RX6 52 "HookPier$Plan" "hunger" "[I", .methodLink RX6 94 yX6_wishBy, .instanceMethod yX6_wishBy, .selects RX6 yX6_wishBy yX6_wishBy, .code yX6_wishBy cX6_wishBy 5 (some .int), .code yX10_spotOf cX10_spotOf 1 (some .int), .initialized RX10, .static yX10_spotOf, .fieldLink RX6 46 "HookPier$Plan" "at" "[I", .methodLink RX6 89 Lib.Math.abs.name, .static Lib.Math.abs.name, .initialized "java/lang/Math", .code Lib.Math.abs.name Lib.Math.abs.code 1 (some .int), .fieldLink RX6 43 "HookPier$Plan" "kind" "[I", .fieldLink RX6 55 "HookPier$Plan" "likes" "[I", .code yX10_baitOf cX10_baitOf 1 (some .int), .static yX10_baitOf, .methodLink RX6 98 Lib.Math.min.name, .static Lib.Math.min.name, .code Lib.Math.min.name Lib.Math.min.code 2 (some .int), .methodLink RX6 102 Lib.Math.max.name, .static Lib.Math.max.name, .code Lib.Math.max.name Lib.Math.max.code 2 (some .int), .code yX10_fathomsOf cX10_fathomsOf 1 (some .int), .static yX10_fathomsOf, .fieldLink RX6 49 "HookPier$Plan" "depth" "[I"])) (goodIn_sub iX5_worthiestQuestion_X6 (by decide +kernel))) (goodIn_sub iX5_worthiestQuestion_X4 (by decide +kernel)))
set_option maxHeartbeats 2000000 in
set_option maxRecDepth 100000 in
theorem kX5_worthiestQuestion (l : Launch) (dC : Nat → ClassId) (dI : Nat → Nat → Nat) (a0 : Nat) (a1 : Nat) (a2 : Nat) (a3 : Nat) (a4 : Nat) (a5 : Nat) (a6 : Nat) (a7 : Nat) (a8 : Nat) (k9 : Int32) (k10 : Int32) (g11 : Value) (g12 : Value) (k13 : Int32) (g14 : Value) (k15 : Int32) (g16 : Value) (g17 : Value) (g18 : Value) (g19 : Value) (g20 : Value) (g21 : Value) (g22 : Value) (g23 : Value) (g24 : Value) (g25 : Value) (g26 : Value) (cB27 : ClassId) (f28 : Nat → Int32) (cB29 : ClassId) (f30 : Nat → Int32) (cB31 : ClassId) (f32 : Nat → Int32) (cB33 : ClassId) (f34 : Nat → Int32) (cB35 : ClassId) (f36 : Nat → Int32) (cB37 : ClassId) (f38 : Nat → Int32) (cB39 : ClassId) (f40 : Nat → Int32) (hk9 : (0 ≤ k9.toInt ∧ k9.toInt ≤ 8)) (hk10 : (0 ≤ k10.toInt ∧ k10.toInt ≤ 9)) (hk13 : (0 ≤ k13.toInt ∧ k13.toInt ≤ 4)) (hk15 : (0 ≤ k15.toInt ∧ k15.toInt ≤ 6)) (sz : Nat) : Met l yX5_worthiestQuestion vX5_worthiestQuestion ({ frames := 5, cells := 0, slots := 0, locals := 120 }) (PC (dC, dI) [.ref a0, .ref a1] sz [(a0, .inr (4, [.int k9, .int k10, g11, g12, .int k13, g14, .int k15, g16, g17, g18, .ref a2, .ref a3, .ref a4, .ref a5, .ref a6, .ref a7, g19, g20])), (a1, .inr (3, [g21, g22, g23, .ref a8, g24, g25, g26])), (a2, .inl (cB27, 6, .inl f28)), (a3, .inl (cB29, 6, .inl f30)), (a4, .inl (cB31, 6, .inl f32)), (a5, .inl (cB33, 6, .inl f34)), (a6, .inl (cB35, 6, .inl f36)), (a7, .inl (cB37, 6, .inl f38)), (a8, .inl (cB39, 6, .inl f40))] [(cB27, .int), (cB29, .int), (cB31, .int), (cB33, .int), (cB35, .int), (cB37, .int), (cB39, .int)]) (va_Qi (S := Unit) (fun (r : Int32) _ => ((-2) ≤ r.toInt ∧ r.toInt ≤ 799)) (fun _ t => BC (dC, dI) (va_A [(a0, .inr (4, [.int k9, .int k10, g11, g12, .int k13, g14, .int k15, g16, g17, g18, .ref a2, .ref a3, .ref a4, .ref a5, .ref a6, .ref a7, g19, g20])), (a1, .inr (3, [g21, g22, g23, .ref a8, g24, g25, g26])), (a2, .inl (cB27, 6, .inl f28)), (a3, .inl (cB29, 6, .inl f30)), (a4, .inl (cB31, 6, .inl f32)), (a5, .inl (cB33, 6, .inl f34)), (a6, .inl (cB35, 6, .inl f36)), (a7, .inl (cB37, 6, .inl f38)), (a8, .inl (cB39, 6, .inl f40))] sz) [(a0, .inr (4, [.int k9, .int k10, g11, g12, .int k13, g14, .int k15, g16, g17, g18, .ref a2, .ref a3, .ref a4, .ref a5, .ref a6, .ref a7, g19, g20])), (a1, .inr (3, [g21, g22, g23, .ref a8, g24, g25, g26])), (a2, .inl (cB27, 6, .inl f28)), (a3, .inl (cB29, 6, .inl f30)), (a4, .inl (cB31, 6, .inl f32)), (a5, .inl (cB33, 6, .inl f34)), (a6, .inl (cB35, 6, .inl f36)), (a7, .inl (cB37, 6, .inl f38)), (a8, .inl (cB39, 6, .inl f40))] [] t) (va_A [(a0, .inr (4, [.int k9, .int k10, g11, g12, .int k13, g14, .int k15, g16, g17, g18, .ref a2, .ref a3, .ref a4, .ref a5, .ref a6, .ref a7, g19, g20])), (a1, .inr (3, [g21, g22, g23, .ref a8, g24, g25, g26])), (a2, .inl (cB27, 6, .inl f28)), (a3, .inl (cB29, 6, .inl f30)), (a4, .inl (cB31, 6, .inl f32)), (a5, .inl (cB33, 6, .inl f34)), (a6, .inl (cB35, 6, .inl f36)), (a7, .inl (cB37, 6, .inl f38)), (a8, .inl (cB39, 6, .inl f40))] sz)) 0 0 (va_A [(a0, .inr (4, [.int k9, .int k10, g11, g12, .int k13, g14, .int k15, g16, g17, g18, .ref a2, .ref a3, .ref a4, .ref a5, .ref a6, .ref a7, g19, g20])), (a1, .inr (3, [g21, g22, g23, .ref a8, g24, g25, g26])), (a2, .inl (cB27, 6, .inl f28)), (a3, .inl (cB29, 6, .inl f30)), (a4, .inl (cB31, 6, .inl f32)), (a5, .inl (cB33, 6, .inl f34)), (a6, .inl (cB35, 6, .inl f36)), (a7, .inl (cB37, 6, .inl f38)), (a8, .inl (cB39, 6, .inl f40))] sz) := by
  refine Met.ofW (cc := cX5_worthiestQuestion) (maxL := 8) (ret := (some .int)) (by decide) rfl ?_
  intro p e s m args below meth c s₁ B hml hv
  obtain ⟨rfl, hsz, hP, hK, hD0, hN⟩ := hv
  have hx := B.exec
  have hb := B.bytes
  have hr := B.returns
  have hts := atoms_spec (ws := vX5_worthiestQuestion) B.pre
  have hown : s.vm.findClass RX5 = some m.cls := findClass_of_methodNamed B.named
  have hlocks := B.notSynchronized
  subst hsz
  have hD := hD0.self (sz := s.heap.size)
  generalize hAe : va_A [(a0, .inr (4, [.int k9, .int k10, g11, g12, .int k13, g14, .int k15, g16, g17, g18, .ref a2, .ref a3, .ref a4, .ref a5, .ref a6, .ref a7, g19, g20])), (a1, .inr (3, [g21, g22, g23, .ref a8, g24, g25, g26])), (a2, .inl (cB27, 6, .inl f28)), (a3, .inl (cB29, 6, .inl f30)), (a4, .inl (cB31, 6, .inl f32)), (a5, .inl (cB33, 6, .inl f34)), (a6, .inl (cB35, 6, .inl f36)), (a7, .inl (cB37, 6, .inl f38)), (a8, .inl (cB39, 6, .inl f40))] s.heap.size = A at hD ⊢
  have hA : ∀ q : Nat, s.heap.size ≤ q → A q := fun q h => by rw [← hAe]; exact Or.inr h
  have hS : va_S A s.heap s.heap [] := va_S.rf
  have hP : va_P (dC, dI) vwCl [(a0, .inr (4, [.int k9, .int k10, g11, g12, .int k13, g14, .int k15, g16, g17, g18, .ref a2, .ref a3, .ref a4, .ref a5, .ref a6, .ref a7, g19, g20])), (a1, .inr (3, [g21, g22, g23, .ref a8, g24, g25, g26])), (a2, .inl (cB27, 6, .inl f28)), (a3, .inl (cB29, 6, .inl f30)), (a4, .inl (cB31, 6, .inl f32)), (a5, .inl (cB33, 6, .inl f34)), (a6, .inl (cB35, 6, .inl f36)), (a7, .inl (cB37, 6, .inl f38)), (a8, .inl (cB39, 6, .inl f40))] s.heap := hP
  have hl := lv_entry ([.ref a0, .ref a1]) (n := 8) (Nat.le_of_ble_eq_true rfl)
  rw [lg_entry_eq]
  generalize (lg_sl ([.ref a0, .ref a1]) ++ List.replicate (8 - (lg_sl ([.ref a0, .ref a1])).length) Slot.unset).toArray = ls at hl ⊢
  have hl : lv_has ls 8 [(0, .ref a0), (1, .ref a1)] := hl
  refine lv_bipush (v := (-2)) hx hb dX5_worthiestQuestion_0 (by decide) ?_
  refine lv_istore_n (lv' := [(2, .int (-2)), (0, .ref a0), (1, .ref a1)]) hx hb dX5_worthiestQuestion_2 rfl hl (by decide) rfl (fun ls hl => ?_)
  refine lv_lconst (v := 0) hx hb dX5_worthiestQuestion_3 (by decide) ?_
  refine lv_lstore_n (lv' := [(3, .long 0), (2, .int (-2)), (0, .ref a0), (1, .ref a1)]) hx hb dX5_worthiestQuestion_4 rfl hl (by decide) rfl (fun ls hl => ?_)
  refine lv_iconst (v := 0) hx hb dX5_worthiestQuestion_5 (by decide) ?_
  refine lv_istore (lv' := [(5, .int 0), (3, .long 0), (2, .int (-2)), (0, .ref a0), (1, .ref a1)]) hx hb dX5_worthiestQuestion_6 hl (by decide) rfl (fun ls hl => ?_)
  have L8_455 : ∀ (n : Nat) (z452 : Int32) (j453 : Int64) (z454 : Int32) (H : Heap) (locs : List Loc) (ls : Array Slot), (0 ≤ z452.toInt ∧ z452.toInt ≤ 800) → ((-2) ≤ z454.toInt ∧ z454.toInt ≤ 799) → 800 - z452.toInt < (n : Int) → va_P (dC, dI) vwCl [(a0, .inr (4, [.int k9, .int k10, g11, g12, .int k13, g14, .int k15, g16, g17, g18, .ref a2, .ref a3, .ref a4, .ref a5, .ref a6, .ref a7, g19, g20])), (a1, .inr (3, [g21, g22, g23, .ref a8, g24, g25, g26])), (a2, .inl (cB27, 6, .inl f28)), (a3, .inl (cB29, 6, .inl f30)), (a4, .inl (cB31, 6, .inl f32)), (a5, .inl (cB33, 6, .inl f34)), (a6, .inl (cB35, 6, .inl f36)), (a7, .inl (cB37, 6, .inl f38)), (a8, .inl (cB39, 6, .inl f40))] H → va_D A [(a0, .inr (4, [.int k9, .int k10, g11, g12, .int k13, g14, .int k15, g16, g17, g18, .ref a2, .ref a3, .ref a4, .ref a5, .ref a6, .ref a7, g19, g20])), (a1, .inr (3, [g21, g22, g23, .ref a8, g24, g25, g26])), (a2, .inl (cB27, 6, .inl f28)), (a3, .inl (cB29, 6, .inl f30)), (a4, .inl (cB31, 6, .inl f32)), (a5, .inl (cB33, 6, .inl f34)), (a6, .inl (cB35, 6, .inl f36)), (a7, .inl (cB37, 6, .inl f38)), (a8, .inl (cB39, 6, .inl f40))] → va_S A s.heap H locs → lv_has ls 8 [(5, .int z452), (3, .long j453), (2, .int z454), (0, .ref a0), (1, .ref a1)] → W p l e (headSpec vX5_worthiestQuestion { frames := 5, cells := 0, slots := 0, locals := 120 }).room s m ([.ref a0, .ref a1]).toArray below meth c H locs 0 0 (MQ below (va_Qi (S := Unit) (fun (r : Int32) _ => ((-2) ≤ r.toInt ∧ r.toInt ≤ 799)) (fun _ t => BC (dC, dI) A [(a0, .inr (4, [.int k9, .int k10, g11, g12, .int k13, g14, .int k15, g16, g17, g18, .ref a2, .ref a3, .ref a4, .ref a5, .ref a6, .ref a7, g19, g20])), (a1, .inr (3, [g21, g22, g23, .ref a8, g24, g25, g26])), (a2, .inl (cB27, 6, .inl f28)), (a3, .inl (cB29, 6, .inl f30)), (a4, .inl (cB31, 6, .inl f32)), (a5, .inl (cB33, 6, .inl f34)), (a6, .inl (cB35, 6, .inl f36)), (a7, .inl (cB37, 6, .inl f38)), (a8, .inl (cB39, 6, .inl f40))] [] t) A) ([.ref a0, .ref a1]).toArray s 0 0 A) (F0 m 8 ls []) := by
    intro n
    induction n with
    | zero =>
      intro z452 j453 z454 H locs ls b8_0 b8_1 hm _ _ _ _
      exact absurd hm (by omega)
    | succ n ih8 =>
      intro z452 j453 z454 H locs ls b8_0 b8_1 hm8 hP hD hS hl
      refine lv_iload hx hb dX5_worthiestQuestion_8 (lv_at hl 0 rfl) ?_
      refine lv_aload_n hx hb dX5_worthiestQuestion_10 rfl (lv_at hl 3 rfl) ?_
      refine cl_i (wc := [(a0, .inr (4, [.int k9, .int k10, g11, g12, .int k13, g14, .int k15, g16, g17, g18, .ref a2, .ref a3, .ref a4, .ref a5, .ref a6, .ref a7, g19, g20]))]) (wr := [(a1, .inr (3, [g21, g22, g23, .ref a8, g24, g25, g26])), (a2, .inl (cB27, 6, .inl f28)), (a3, .inl (cB29, 6, .inl f30)), (a4, .inl (cB31, 6, .inl f32)), (a5, .inl (cB33, 6, .inl f34)), (a6, .inl (cB35, 6, .inl f36)), (a7, .inl (cB37, 6, .inl f38)), (a8, .inl (cB39, 6, .inl f40))]) (va_runV (As := []) (rest := [.int z452]) ⟨hx, hb, hml, hown, hts⟩ (kX6_questionBound l dC dI a0 k9 (.int k10) (g11) (g12) (.int k13) (g14) (.int k15) (g16) (g17) (g18) (.ref a2) (.ref a3) (.ref a4) (.ref a5) (.ref a6) (.ref a7) (g19) (g20) (by first | omega | (simp only [ltv_0]; omega)) H.size) (cwV 0 hts gX5_worthiestQuestion_0 rfl rfl rfl (by decide +kernel) ⟨Nat.le_of_ble_eq_true rfl, Nat.le_of_ble_eq_true rfl⟩) (PV (hP.sub (ws' := [(a0, .inr (4, [.int k9, .int k10, g11, g12, .int k13, g14, .int k15, g16, g17, g18, .ref a2, .ref a3, .ref a4, .ref a5, .ref a6, .ref a7, g19, g20]))]) [0] rfl) (hK.sub (tys' := []) [] rfl) (hD.sub (ws' := [(a0, .inr (4, [.int k9, .int k10, g11, g12, .int k13, g14, .int k15, g16, g17, g18, .ref a2, .ref a3, .ref a4, .ref a5, .ref a6, .ref a7, g19, g20]))]) [0] (by decide) rfl) hN 0 rfl rfl) rfl rfl hl.1 rfl (lv_room (Nat.le_of_ble_eq_true rfl)) dX5_worthiestQuestion_11 ⟨Nat.le_of_ble_eq_true rfl, Nat.le_of_ble_eq_true rfl⟩) hP hD hK hS hA [0] [1, 2, 3, 4, 5, 6, 7, 8] rfl rfl (by decide) (by decide) (fun z456 _u H locs hw hP hD hK hS => ?_)
      have b457 := hw
      have hP : va_P (dC, dI) vwCl [(a1, .inr (3, [g21, g22, g23, .ref a8, g24, g25, g26])), (a2, .inl (cB27, 6, .inl f28)), (a3, .inl (cB29, 6, .inl f30)), (a4, .inl (cB31, 6, .inl f32)), (a5, .inl (cB33, 6, .inl f34)), (a6, .inl (cB35, 6, .inl f36)), (a7, .inl (cB37, 6, .inl f38)), (a8, .inl (cB39, 6, .inl f40)), (a0, .inr (4, [.int k9, .int k10, g11, g12, .int k13, g14, .int k15, g16, g17, g18, .ref a2, .ref a3, .ref a4, .ref a5, .ref a6, .ref a7, g19, g20]))] H := hP
      have hD : va_D A [(a1, .inr (3, [g21, g22, g23, .ref a8, g24, g25, g26])), (a2, .inl (cB27, 6, .inl f28)), (a3, .inl (cB29, 6, .inl f30)), (a4, .inl (cB31, 6, .inl f32)), (a5, .inl (cB33, 6, .inl f34)), (a6, .inl (cB35, 6, .inl f36)), (a7, .inl (cB37, 6, .inl f38)), (a8, .inl (cB39, 6, .inl f40)), (a0, .inr (4, [.int k9, .int k10, g11, g12, .int k13, g14, .int k15, g16, g17, g18, .ref a2, .ref a3, .ref a4, .ref a5, .ref a6, .ref a7, g19, g20]))] := hD
      have hK : va_K (dC, dI) vwCl [(cB27, .int), (cB29, .int), (cB31, .int), (cB33, .int), (cB35, .int), (cB37, .int), (cB39, .int)] s := hK
      refine lv_icmp_ge (tgt := 58) hx hb dX5_worthiestQuestion_14 (by decide) (fun c458 => ?_) (fun c458 => ?_)
      · simp only [fa_lt, fa_le, fa_eq, ltv_0] at c458
        refine lv_iload_n hx hb dX5_worthiestQuestion_58 rfl (lv_at hl 2 rfl) ?_
        have hP9 := hP.sub (ws' := [(a0, .inr (4, [.int k9, .int k10, g11, g12, .int k13, g14, .int k15, g16, g17, g18, .ref a2, .ref a3, .ref a4, .ref a5, .ref a6, .ref a7, g19, g20])), (a1, .inr (3, [g21, g22, g23, .ref a8, g24, g25, g26])), (a2, .inl (cB27, 6, .inl f28)), (a3, .inl (cB29, 6, .inl f30)), (a4, .inl (cB31, 6, .inl f32)), (a5, .inl (cB33, 6, .inl f34)), (a6, .inl (cB35, 6, .inl f36)), (a7, .inl (cB37, 6, .inl f38)), (a8, .inl (cB39, 6, .inl f40))]) [8, 0, 1, 2, 3, 4, 5, 6, 7] rfl
        have hD9 := hD.sub (ws' := [(a0, .inr (4, [.int k9, .int k10, g11, g12, .int k13, g14, .int k15, g16, g17, g18, .ref a2, .ref a3, .ref a4, .ref a5, .ref a6, .ref a7, g19, g20])), (a1, .inr (3, [g21, g22, g23, .ref a8, g24, g25, g26])), (a2, .inl (cB27, 6, .inl f28)), (a3, .inl (cB29, 6, .inl f30)), (a4, .inl (cB31, 6, .inl f32)), (a5, .inl (cB33, 6, .inl f34)), (a6, .inl (cB35, 6, .inl f36)), (a7, .inl (cB37, 6, .inl f38)), (a8, .inl (cB39, 6, .inl f40))]) [8, 0, 1, 2, 3, 4, 5, 6, 7] (by decide) rfl
        have hK9 := hK.sub (tys' := []) [] rfl
        exact W.iret (v := z454) hx hb hr (fun t ht hW => ⟨⟨z454, (), rfl, (by first | trivial | omega | (simp only [ltv_0]; omega)), by rw [ht]; exact hP9, va_K.moved hW.alike hK9, hD9⟩, hS.F ht⟩) hS.2.2 dX5_worthiestQuestion_59
      · simp only [fa_lt, fa_le, fa_eq, ltv_0] at c458
        refine lv_aload_n hx hb dX5_worthiestQuestion_17 rfl (lv_at hl 3 rfl) ?_
        refine lv_iload hx hb dX5_worthiestQuestion_18 (lv_at hl 0 rfl) ?_
        refine cl_i (wc := [(a0, .inr (4, [.int k9, .int k10, g11, g12, .int k13, g14, .int k15, g16, g17, g18, .ref a2, .ref a3, .ref a4, .ref a5, .ref a6, .ref a7, g19, g20]))]) (wr := [(a1, .inr (3, [g21, g22, g23, .ref a8, g24, g25, g26])), (a2, .inl (cB27, 6, .inl f28)), (a3, .inl (cB29, 6, .inl f30)), (a4, .inl (cB31, 6, .inl f32)), (a5, .inl (cB33, 6, .inl f34)), (a6, .inl (cB35, 6, .inl f36)), (a7, .inl (cB37, 6, .inl f38)), (a8, .inl (cB39, 6, .inl f40))]) (va_runV (As := [.int z452]) (rest := []) ⟨hx, hb, hml, hown, hts⟩ (kX6_hasQuestion l dC dI a0 z452 k9 k10 (g11) (g12) k13 (g14) (.int k15) (g16) (g17) (g18) (.ref a2) (.ref a3) (.ref a4) (.ref a5) (.ref a6) (.ref a7) (g19) (g20) (by first | omega | (simp only [ltv_0]; omega)) (by first | omega | (simp only [ltv_0]; omega)) (by first | omega | (simp only [ltv_0]; omega)) H.size) (cwV 1 hts gX5_worthiestQuestion_1 rfl rfl rfl (by decide +kernel) ⟨Nat.le_of_ble_eq_true rfl, Nat.le_of_ble_eq_true rfl⟩) (PV (hP.sub (ws' := [(a0, .inr (4, [.int k9, .int k10, g11, g12, .int k13, g14, .int k15, g16, g17, g18, .ref a2, .ref a3, .ref a4, .ref a5, .ref a6, .ref a7, g19, g20]))]) [8] rfl) (hK.sub (tys' := []) [] rfl) (hD.sub (ws' := [(a0, .inr (4, [.int k9, .int k10, g11, g12, .int k13, g14, .int k15, g16, g17, g18, .ref a2, .ref a3, .ref a4, .ref a5, .ref a6, .ref a7, g19, g20]))]) [8] (by decide) rfl) hN 0 rfl rfl) rfl rfl hl.1 rfl (lv_room (Nat.le_of_ble_eq_true rfl)) dX5_worthiestQuestion_20 ⟨Nat.le_of_ble_eq_true rfl, Nat.le_of_ble_eq_true rfl⟩) hP hD hK hS hA [8] [0, 1, 2, 3, 4, 5, 6, 7] rfl rfl (by decide) (by decide) (fun z459 _u H locs hw hP hD hK hS => ?_)
        have b460 := hw
        have hP : va_P (dC, dI) vwCl [(a1, .inr (3, [g21, g22, g23, .ref a8, g24, g25, g26])), (a2, .inl (cB27, 6, .inl f28)), (a3, .inl (cB29, 6, .inl f30)), (a4, .inl (cB31, 6, .inl f32)), (a5, .inl (cB33, 6, .inl f34)), (a6, .inl (cB35, 6, .inl f36)), (a7, .inl (cB37, 6, .inl f38)), (a8, .inl (cB39, 6, .inl f40)), (a0, .inr (4, [.int k9, .int k10, g11, g12, .int k13, g14, .int k15, g16, g17, g18, .ref a2, .ref a3, .ref a4, .ref a5, .ref a6, .ref a7, g19, g20]))] H := hP
        have hD : va_D A [(a1, .inr (3, [g21, g22, g23, .ref a8, g24, g25, g26])), (a2, .inl (cB27, 6, .inl f28)), (a3, .inl (cB29, 6, .inl f30)), (a4, .inl (cB31, 6, .inl f32)), (a5, .inl (cB33, 6, .inl f34)), (a6, .inl (cB35, 6, .inl f36)), (a7, .inl (cB37, 6, .inl f38)), (a8, .inl (cB39, 6, .inl f40)), (a0, .inr (4, [.int k9, .int k10, g11, g12, .int k13, g14, .int k15, g16, g17, g18, .ref a2, .ref a3, .ref a4, .ref a5, .ref a6, .ref a7, g19, g20]))] := hD
        have hK : va_K (dC, dI) vwCl [(cB27, .int), (cB29, .int), (cB31, .int), (cB33, .int), (cB35, .int), (cB37, .int), (cB39, .int)] s := hK
        refine lv_if_eq (tgt := 36) hx hb dX5_worthiestQuestion_23 (by decide) (fun c461 => ?_) (fun c461 => ?_)
        · simp only [fa_lt, fa_le, fa_eq, ltv_0] at c461
          refine lv_lconst (v := 0) hx hb dX5_worthiestQuestion_36 (by decide) ?_
          refine lv_lstore (lv' := [(6, .long 0), (5, .int z452), (3, .long j453), (2, .int z454), (0, .ref a0), (1, .ref a1)]) hx hb dX5_worthiestQuestion_37 hl (by decide) rfl (fun ls hl => ?_)
          refine lv_lload hx hb dX5_worthiestQuestion_39 (lv_at hl 0 rfl) ?_
          refine lv_lload_n hx hb dX5_worthiestQuestion_41 rfl (lv_at hl 2 rfl) ?_
          refine W.lcmp hx hb dX5_worthiestQuestion_42 ?_
          refine lv_topi (fun z462 ez462 => ?_)
          refine lv_if_le (tgt := 52) hx hb dX5_worthiestQuestion_43 (by decide) (fun c463 => ?_) (fun c463 => ?_)
          · clear c463
            obtain ⟨z464, ez464⟩ : ∃ y : Int32, y = z452 + 1 := ⟨_, rfl⟩
            have tz464 : z464.toInt = z452.toInt + 1 := by rw [ez464, iadd_t (by simp only [ltv_1]; omega) (by simp only [ltv_1]; omega)]; simp only [ltv_1]
            refine lv_iinc (v := z464) (lv' := [(5, .int z464), (6, .long 0), (3, .long j453), (2, .int z454), (0, .ref a0), (1, .ref a1)]) hx hb dX5_worthiestQuestion_52 hl (k := 1) rfl (by rw [ez464]; rfl) (by decide) rfl (fun ls hl => ?_)
            refine lv_goto (tgt := 8) hx hb dX5_worthiestQuestion_55 (by decide) ?_
            exact ih8 z464 j453 z454 H locs ls (by first | omega | (simp only [ltv_0]; omega)) (by first | omega | (simp only [ltv_0]; omega)) (by first | omega | (simp only [ltv_0]; omega)) (hP.sub (ws' := [(a0, .inr (4, [.int k9, .int k10, g11, g12, .int k13, g14, .int k15, g16, g17, g18, .ref a2, .ref a3, .ref a4, .ref a5, .ref a6, .ref a7, g19, g20])), (a1, .inr (3, [g21, g22, g23, .ref a8, g24, g25, g26])), (a2, .inl (cB27, 6, .inl f28)), (a3, .inl (cB29, 6, .inl f30)), (a4, .inl (cB31, 6, .inl f32)), (a5, .inl (cB33, 6, .inl f34)), (a6, .inl (cB35, 6, .inl f36)), (a7, .inl (cB37, 6, .inl f38)), (a8, .inl (cB39, 6, .inl f40))]) [8, 0, 1, 2, 3, 4, 5, 6, 7] rfl) (hD.sub (ws' := [(a0, .inr (4, [.int k9, .int k10, g11, g12, .int k13, g14, .int k15, g16, g17, g18, .ref a2, .ref a3, .ref a4, .ref a5, .ref a6, .ref a7, g19, g20])), (a1, .inr (3, [g21, g22, g23, .ref a8, g24, g25, g26])), (a2, .inl (cB27, 6, .inl f28)), (a3, .inl (cB29, 6, .inl f30)), (a4, .inl (cB31, 6, .inl f32)), (a5, .inl (cB33, 6, .inl f34)), (a6, .inl (cB35, 6, .inl f36)), (a7, .inl (cB37, 6, .inl f38)), (a8, .inl (cB39, 6, .inl f40))]) [8, 0, 1, 2, 3, 4, 5, 6, 7] (by decide) rfl) hS (lv_sub hl [0, 2, 3, 4, 5] rfl)
          · clear c463
            refine lv_lload hx hb dX5_worthiestQuestion_46 (lv_at hl 0 rfl) ?_
            refine lv_lstore_n (lv' := [(3, .long 0), (6, .long 0), (5, .int z452), (2, .int z454), (0, .ref a0), (1, .ref a1)]) hx hb dX5_worthiestQuestion_48 rfl hl (by decide) rfl (fun ls hl => ?_)
            refine lv_iload hx hb dX5_worthiestQuestion_49 (lv_at hl 2 rfl) ?_
            refine lv_istore_n (lv' := [(2, .int z452), (3, .long 0), (6, .long 0), (5, .int z452), (0, .ref a0), (1, .ref a1)]) hx hb dX5_worthiestQuestion_51 rfl hl (by decide) rfl (fun ls hl => ?_)
            obtain ⟨z465, ez465⟩ : ∃ y : Int32, y = z452 + 1 := ⟨_, rfl⟩
            have tz465 : z465.toInt = z452.toInt + 1 := by rw [ez465, iadd_t (by simp only [ltv_1]; omega) (by simp only [ltv_1]; omega)]; simp only [ltv_1]
            refine lv_iinc (v := z465) (lv' := [(5, .int z465), (2, .int z452), (3, .long 0), (6, .long 0), (0, .ref a0), (1, .ref a1)]) hx hb dX5_worthiestQuestion_52 hl (k := 3) rfl (by rw [ez465]; rfl) (by decide) rfl (fun ls hl => ?_)
            refine lv_goto (tgt := 8) hx hb dX5_worthiestQuestion_55 (by decide) ?_
            exact ih8 z465 (0) z452 H locs ls (by first | omega | (simp only [ltv_0]; omega)) (by first | omega | (simp only [ltv_0]; omega)) (by first | omega | (simp only [ltv_0]; omega)) (hP.sub (ws' := [(a0, .inr (4, [.int k9, .int k10, g11, g12, .int k13, g14, .int k15, g16, g17, g18, .ref a2, .ref a3, .ref a4, .ref a5, .ref a6, .ref a7, g19, g20])), (a1, .inr (3, [g21, g22, g23, .ref a8, g24, g25, g26])), (a2, .inl (cB27, 6, .inl f28)), (a3, .inl (cB29, 6, .inl f30)), (a4, .inl (cB31, 6, .inl f32)), (a5, .inl (cB33, 6, .inl f34)), (a6, .inl (cB35, 6, .inl f36)), (a7, .inl (cB37, 6, .inl f38)), (a8, .inl (cB39, 6, .inl f40))]) [8, 0, 1, 2, 3, 4, 5, 6, 7] rfl) (hD.sub (ws' := [(a0, .inr (4, [.int k9, .int k10, g11, g12, .int k13, g14, .int k15, g16, g17, g18, .ref a2, .ref a3, .ref a4, .ref a5, .ref a6, .ref a7, g19, g20])), (a1, .inr (3, [g21, g22, g23, .ref a8, g24, g25, g26])), (a2, .inl (cB27, 6, .inl f28)), (a3, .inl (cB29, 6, .inl f30)), (a4, .inl (cB31, 6, .inl f32)), (a5, .inl (cB33, 6, .inl f34)), (a6, .inl (cB35, 6, .inl f36)), (a7, .inl (cB37, 6, .inl f38)), (a8, .inl (cB39, 6, .inl f40))]) [8, 0, 1, 2, 3, 4, 5, 6, 7] (by decide) rfl) hS (lv_sub hl [0, 2, 1, 4, 5] rfl)
        · simp only [fa_lt, fa_le, fa_eq, ltv_0] at c461
          refine lv_aload_n hx hb dX5_worthiestQuestion_26 rfl (lv_at hl 3 rfl) ?_
          refine lv_aload_n hx hb dX5_worthiestQuestion_27 rfl (lv_at hl 4 rfl) ?_
          refine lv_iload hx hb dX5_worthiestQuestion_28 (lv_at hl 0 rfl) ?_
          refine cl_l (wc := [(a0, .inr (4, [.int k9, .int k10, g11, g12, .int k13, g14, .int k15, g16, g17, g18, .ref a2, .ref a3, .ref a4, .ref a5, .ref a6, .ref a7, g19, g20])), (a1, .inr (3, [g21, g22, g23, .ref a8, g24, g25, g26])), (a2, .inl (cB27, 6, .inl f28)), (a3, .inl (cB29, 6, .inl f30)), (a4, .inl (cB31, 6, .inl f32)), (a5, .inl (cB33, 6, .inl f34)), (a6, .inl (cB35, 6, .inl f36)), (a7, .inl (cB37, 6, .inl f38)), (a8, .inl (cB39, 6, .inl f40))]) (wr := []) (va_runS (As := [.ref a0, .ref a1, .int z452]) (rest := []) ⟨hx, hb, hml, hown, hts⟩ (kX5_meanWorth l dC dI a0 a1 z452 a2 a3 a4 a5 a6 a7 a8 (.int k9) (.int k10) (g11) (g12) (.int k13) (g14) k15 (g16) (g17) (g18) (g19) (g20) (g21) (g22) (g23) (g24) (g25) (g26) cB27 f28 cB29 f30 cB31 f32 cB33 f34 cB35 f36 cB37 f38 cB39 f40 (by first | omega | (simp only [ltv_0]; omega)) H.size) (va_cwS 3 hts gX5_worthiestQuestion_2 rfl rfl rfl (by decide +kernel) ⟨Nat.le_of_ble_eq_true rfl, Nat.le_of_ble_eq_true rfl⟩) (PS (hP.sub (ws' := [(a0, .inr (4, [.int k9, .int k10, g11, g12, .int k13, g14, .int k15, g16, g17, g18, .ref a2, .ref a3, .ref a4, .ref a5, .ref a6, .ref a7, g19, g20])), (a1, .inr (3, [g21, g22, g23, .ref a8, g24, g25, g26])), (a2, .inl (cB27, 6, .inl f28)), (a3, .inl (cB29, 6, .inl f30)), (a4, .inl (cB31, 6, .inl f32)), (a5, .inl (cB33, 6, .inl f34)), (a6, .inl (cB35, 6, .inl f36)), (a7, .inl (cB37, 6, .inl f38)), (a8, .inl (cB39, 6, .inl f40))]) [8, 0, 1, 2, 3, 4, 5, 6, 7] rfl) (hK.sub (tys' := [(cB27, .int), (cB29, .int), (cB31, .int), (cB33, .int), (cB35, .int), (cB37, .int), (cB39, .int)]) [0, 1, 2, 3, 4, 5, 6] rfl) (hD.sub (ws' := [(a0, .inr (4, [.int k9, .int k10, g11, g12, .int k13, g14, .int k15, g16, g17, g18, .ref a2, .ref a3, .ref a4, .ref a5, .ref a6, .ref a7, g19, g20])), (a1, .inr (3, [g21, g22, g23, .ref a8, g24, g25, g26])), (a2, .inl (cB27, 6, .inl f28)), (a3, .inl (cB29, 6, .inl f30)), (a4, .inl (cB31, 6, .inl f32)), (a5, .inl (cB33, 6, .inl f34)), (a6, .inl (cB35, 6, .inl f36)), (a7, .inl (cB37, 6, .inl f38)), (a8, .inl (cB39, 6, .inl f40))]) [8, 0, 1, 2, 3, 4, 5, 6, 7] (by decide) rfl) hN) rfl rfl hl.1 rfl (lv_room (Nat.le_of_ble_eq_true rfl)) dX5_worthiestQuestion_30 ⟨Nat.le_of_ble_eq_true rfl, Nat.le_of_ble_eq_true rfl⟩) hP hD hK hS hA [8, 0, 1, 2, 3, 4, 5, 6, 7] [] rfl rfl (by decide) (by decide) (fun z466 _u H locs hw hP hD hK hS => ?_)
          have b467 := hw
          have hP : va_P (dC, dI) vwCl [(a0, .inr (4, [.int k9, .int k10, g11, g12, .int k13, g14, .int k15, g16, g17, g18, .ref a2, .ref a3, .ref a4, .ref a5, .ref a6, .ref a7, g19, g20])), (a1, .inr (3, [g21, g22, g23, .ref a8, g24, g25, g26])), (a2, .inl (cB27, 6, .inl f28)), (a3, .inl (cB29, 6, .inl f30)), (a4, .inl (cB31, 6, .inl f32)), (a5, .inl (cB33, 6, .inl f34)), (a6, .inl (cB35, 6, .inl f36)), (a7, .inl (cB37, 6, .inl f38)), (a8, .inl (cB39, 6, .inl f40))] H := hP
          have hD : va_D A [(a0, .inr (4, [.int k9, .int k10, g11, g12, .int k13, g14, .int k15, g16, g17, g18, .ref a2, .ref a3, .ref a4, .ref a5, .ref a6, .ref a7, g19, g20])), (a1, .inr (3, [g21, g22, g23, .ref a8, g24, g25, g26])), (a2, .inl (cB27, 6, .inl f28)), (a3, .inl (cB29, 6, .inl f30)), (a4, .inl (cB31, 6, .inl f32)), (a5, .inl (cB33, 6, .inl f34)), (a6, .inl (cB35, 6, .inl f36)), (a7, .inl (cB37, 6, .inl f38)), (a8, .inl (cB39, 6, .inl f40))] := hD
          have hK : va_K (dC, dI) vwCl [(cB27, .int), (cB29, .int), (cB31, .int), (cB33, .int), (cB35, .int), (cB37, .int), (cB39, .int)] s := hK
          refine lv_goto (tgt := 37) hx hb dX5_worthiestQuestion_33 (by decide) ?_
          refine lv_lstore (lv' := [(6, .long z466), (5, .int z452), (3, .long j453), (2, .int z454), (0, .ref a0), (1, .ref a1)]) hx hb dX5_worthiestQuestion_37 hl (by decide) rfl (fun ls hl => ?_)
          refine lv_lload hx hb dX5_worthiestQuestion_39 (lv_at hl 0 rfl) ?_
          refine lv_lload_n hx hb dX5_worthiestQuestion_41 rfl (lv_at hl 2 rfl) ?_
          refine W.lcmp hx hb dX5_worthiestQuestion_42 ?_
          refine lv_topi (fun z468 ez468 => ?_)
          refine lv_if_le (tgt := 52) hx hb dX5_worthiestQuestion_43 (by decide) (fun c469 => ?_) (fun c469 => ?_)
          · clear c469
            obtain ⟨z470, ez470⟩ : ∃ y : Int32, y = z452 + 1 := ⟨_, rfl⟩
            have tz470 : z470.toInt = z452.toInt + 1 := by rw [ez470, iadd_t (by simp only [ltv_1]; omega) (by simp only [ltv_1]; omega)]; simp only [ltv_1]
            refine lv_iinc (v := z470) (lv' := [(5, .int z470), (6, .long z466), (3, .long j453), (2, .int z454), (0, .ref a0), (1, .ref a1)]) hx hb dX5_worthiestQuestion_52 hl (k := 1) rfl (by rw [ez470]; rfl) (by decide) rfl (fun ls hl => ?_)
            refine lv_goto (tgt := 8) hx hb dX5_worthiestQuestion_55 (by decide) ?_
            exact ih8 z470 j453 z454 H locs ls (by first | omega | (simp only [ltv_0]; omega)) (by first | omega | (simp only [ltv_0]; omega)) (by first | omega | (simp only [ltv_0]; omega)) hP hD hS (lv_sub hl [0, 2, 3, 4, 5] rfl)
          · clear c469
            refine lv_lload hx hb dX5_worthiestQuestion_46 (lv_at hl 0 rfl) ?_
            refine lv_lstore_n (lv' := [(3, .long z466), (6, .long z466), (5, .int z452), (2, .int z454), (0, .ref a0), (1, .ref a1)]) hx hb dX5_worthiestQuestion_48 rfl hl (by decide) rfl (fun ls hl => ?_)
            refine lv_iload hx hb dX5_worthiestQuestion_49 (lv_at hl 2 rfl) ?_
            refine lv_istore_n (lv' := [(2, .int z452), (3, .long z466), (6, .long z466), (5, .int z452), (0, .ref a0), (1, .ref a1)]) hx hb dX5_worthiestQuestion_51 rfl hl (by decide) rfl (fun ls hl => ?_)
            obtain ⟨z471, ez471⟩ : ∃ y : Int32, y = z452 + 1 := ⟨_, rfl⟩
            have tz471 : z471.toInt = z452.toInt + 1 := by rw [ez471, iadd_t (by simp only [ltv_1]; omega) (by simp only [ltv_1]; omega)]; simp only [ltv_1]
            refine lv_iinc (v := z471) (lv' := [(5, .int z471), (2, .int z452), (3, .long z466), (6, .long z466), (0, .ref a0), (1, .ref a1)]) hx hb dX5_worthiestQuestion_52 hl (k := 3) rfl (by rw [ez471]; rfl) (by decide) rfl (fun ls hl => ?_)
            refine lv_goto (tgt := 8) hx hb dX5_worthiestQuestion_55 (by decide) ?_
            exact ih8 z471 z466 z452 H locs ls (by first | omega | (simp only [ltv_0]; omega)) (by first | omega | (simp only [ltv_0]; omega)) (by first | omega | (simp only [ltv_0]; omega)) hP hD hS (lv_sub hl [0, 2, 1, 4, 5] rfl)
  exact L8_455 801 (0) (0) ((-2)) s.heap _ ls (by first | omega | (simp only [ltv_m2, ltv_0]; omega)) (by first | omega | (simp only [ltv_m2, ltv_0]; omega)) (by first | omega | (simp only [ltv_m2, ltv_0]; omega)) hP hD hS (lv_sub hl [0, 1, 2, 3, 4] rfl)
theorem dX5_commonPart_0 : decode cX5_commonPart 0 = .ok (.lload_n 0, 1) := by decide +kernel
theorem dX5_commonPart_1 : decode cX5_commonPart 1 = .ok (.lstore 4, 2) := by decide +kernel
theorem dX5_commonPart_11 : decode cX5_commonPart 11 = .ok (.sipush 1000, 3) := by decide +kernel
theorem dX5_commonPart_14 : decode cX5_commonPart 14 = .ok (.if_icmp .ge 31, 3) := by decide +kernel
theorem dX5_commonPart_17 : decode cX5_commonPart 17 = .ok (.lload 6, 2) := by decide +kernel
theorem dX5_commonPart_19 : decode cX5_commonPart 19 = .ok (.lconst 0, 1) := by decide +kernel
theorem dX5_commonPart_20 : decode cX5_commonPart 20 = .ok (.lcmp, 1) := by decide +kernel
theorem dX5_commonPart_21 : decode cX5_commonPart 21 = .ok (.ifCond .eq 24, 3) := by decide +kernel
theorem dX5_commonPart_24 : decode cX5_commonPart 24 = .ok (.lload 4, 2) := by decide +kernel
theorem dX5_commonPart_26 : decode cX5_commonPart 26 = .ok (.lload 6, 2) := by decide +kernel
theorem dX5_commonPart_28 : decode cX5_commonPart 28 = .ok (.lrem, 1) := by decide +kernel
theorem dX5_commonPart_29 : decode cX5_commonPart 29 = .ok (.lstore 9, 2) := by decide +kernel
theorem dX5_commonPart_3 : decode cX5_commonPart 3 = .ok (.lload_n 2, 1) := by decide +kernel
theorem dX5_commonPart_31 : decode cX5_commonPart 31 = .ok (.lload 6, 2) := by decide +kernel
theorem dX5_commonPart_33 : decode cX5_commonPart 33 = .ok (.lstore 4, 2) := by decide +kernel
theorem dX5_commonPart_35 : decode cX5_commonPart 35 = .ok (.lload 9, 2) := by decide +kernel
theorem dX5_commonPart_37 : decode cX5_commonPart 37 = .ok (.lstore 6, 2) := by decide +kernel
theorem dX5_commonPart_39 : decode cX5_commonPart 39 = .ok (.iinc 8 1, 3) := by decide +kernel
theorem dX5_commonPart_4 : decode cX5_commonPart 4 = .ok (.lstore 6, 2) := by decide +kernel
theorem dX5_commonPart_42 : decode cX5_commonPart 42 = .ok (.goto (-33), 3) := by decide +kernel
theorem dX5_commonPart_45 : decode cX5_commonPart 45 = .ok (.lload 4, 2) := by decide +kernel
theorem dX5_commonPart_47 : decode cX5_commonPart 47 = .ok (.lreturn, 1) := by decide +kernel
theorem dX5_commonPart_6 : decode cX5_commonPart 6 = .ok (.iconst 0, 1) := by decide +kernel
theorem dX5_commonPart_7 : decode cX5_commonPart 7 = .ok (.istore 8, 2) := by decide +kernel
theorem dX5_commonPart_9 : decode cX5_commonPart 9 = .ok (.iload 8, 2) := by decide +kernel
def vX5_commonPart : List Cond := .code yX5_commonPart cX5_commonPart 11 (some .long) :: ([])
set_option maxHeartbeats 2000000 in
set_option maxRecDepth 100000 in
theorem kX5_commonPart (l : Launch) (dC : Nat → ClassId) (dI : Nat → Nat → Nat) (j0 : Int64) (j1 : Int64) (sz : Nat) : Met l yX5_commonPart vX5_commonPart ({ frames := 0, cells := 0, slots := 0, locals := 0 }) (PC (dC, dI) [.long j0, .long j1] sz [] []) (va_Ql (S := Unit) (fun (r : Int64) _ => True) (fun _ t => BC (dC, dI) (va_A [] sz) [] [] t) (va_A [] sz)) 0 0 (va_A [] sz) := by
  refine Met.ofW (cc := cX5_commonPart) (maxL := 11) (ret := (some .long)) (by decide) rfl ?_
  intro p e s m args below meth c s₁ B hml hv
  obtain ⟨rfl, hsz, hP, hK, hD0, hN⟩ := hv
  have hx := B.exec
  have hb := B.bytes
  have hr := B.returns
  have hts := atoms_spec (ws := vX5_commonPart) B.pre
  have hown : s.vm.findClass RX5 = some m.cls := findClass_of_methodNamed B.named
  have hlocks := B.notSynchronized
  subst hsz
  have hD := hD0.self (sz := s.heap.size)
  generalize hAe : va_A [] s.heap.size = A at hD ⊢
  have hA : ∀ q : Nat, s.heap.size ≤ q → A q := fun q h => by rw [← hAe]; exact Or.inr h
  have hS : va_S A s.heap s.heap [] := va_S.rf
  have hP : va_P (dC, dI) vwCl [] s.heap := hP
  have hl := lv_entry ([.long j0, .long j1]) (n := 11) (Nat.le_of_ble_eq_true rfl)
  rw [lg_entry_eq]
  generalize (lg_sl ([.long j0, .long j1]) ++ List.replicate (11 - (lg_sl ([.long j0, .long j1])).length) Slot.unset).toArray = ls at hl ⊢
  have hl : lv_has ls 11 [(0, .long j0), (2, .long j1)] := hl
  refine lv_lload_n hx hb dX5_commonPart_0 rfl (lv_at hl 0 rfl) ?_
  refine lv_lstore (lv' := [(4, .long j0), (0, .long j0), (2, .long j1)]) hx hb dX5_commonPart_1 hl (by decide) rfl (fun ls hl => ?_)
  refine lv_lload_n hx hb dX5_commonPart_3 rfl (lv_at hl 2 rfl) ?_
  refine lv_lstore (lv' := [(6, .long j1), (4, .long j0), (0, .long j0), (2, .long j1)]) hx hb dX5_commonPart_4 hl (by decide) rfl (fun ls hl => ?_)
  refine lv_iconst (v := 0) hx hb dX5_commonPart_6 (by decide) ?_
  refine lv_istore (lv' := [(8, .int 0), (6, .long j1), (4, .long j0), (0, .long j0), (2, .long j1)]) hx hb dX5_commonPart_7 hl (by decide) rfl (fun ls hl => ?_)
  have L9_203 : ∀ (n : Nat) (z200 : Int32) (j201 : Int64) (j202 : Int64) (H : Heap) (locs : List Loc) (ls : Array Slot), (0 ≤ z200.toInt ∧ z200.toInt ≤ 1000) → 1000 - z200.toInt < (n : Int) → va_P (dC, dI) vwCl [] H → va_D A [] → va_S A s.heap H locs → lv_has ls 11 [(8, .int z200), (6, .long j201), (4, .long j202), (0, .long j0), (2, .long j1)] → W p l e (headSpec vX5_commonPart { frames := 0, cells := 0, slots := 0, locals := 0 }).room s m ([.long j0, .long j1]).toArray below meth c H locs 0 0 (MQ below (va_Ql (S := Unit) (fun (r : Int64) _ => True) (fun _ t => BC (dC, dI) A [] [] t) A) ([.long j0, .long j1]).toArray s 0 0 A) (F0 m 9 ls []) := by
    intro n
    induction n with
    | zero =>
      intro z200 j201 j202 H locs ls b9_0 hm _ _ _ _
      exact absurd hm (by omega)
    | succ n ih9 =>
      intro z200 j201 j202 H locs ls b9_0 hm9 hP hD hS hl
      refine lv_iload hx hb dX5_commonPart_9 (lv_at hl 0 rfl) ?_
      refine lv_sipush (v := 1000) hx hb dX5_commonPart_11 (by decide) ?_
      refine lv_icmp_ge (tgt := 45) hx hb dX5_commonPart_14 (by decide) (fun c204 => ?_) (fun c204 => ?_)
      · simp only [fa_lt, fa_le, fa_eq, ltv_0, ltv_1000] at c204
        refine lv_lload hx hb dX5_commonPart_45 (lv_at hl 2 rfl) ?_
        have hP9 := hP.sub (ws' := []) [] rfl
        have hD9 := hD.sub (ws' := []) [] (by decide) rfl
        have hK9 := hK.sub (tys' := []) [] rfl
        exact W.lret (v := j202) hx hb hr (fun t ht hW => ⟨⟨j202, (), rfl, trivial, by rw [ht]; exact hP9, va_K.moved hW.alike hK9, hD9⟩, hS.F ht⟩) hS.2.2 dX5_commonPart_47
      · simp only [fa_lt, fa_le, fa_eq, ltv_0, ltv_1000] at c204
        refine lv_lload hx hb dX5_commonPart_17 (lv_at hl 1 rfl) ?_
        refine lv_lconst (v := 0) hx hb dX5_commonPart_19 (by decide) ?_
        refine W.lcmp hx hb dX5_commonPart_20 ?_
        refine lv_topi (fun z205 ez205 => ?_)
        refine lv_if_eq (tgt := 45) hx hb dX5_commonPart_21 (by decide) (fun c206 => ?_) (fun c206 => ?_)
        · clear c206
          refine lv_lload hx hb dX5_commonPart_45 (lv_at hl 2 rfl) ?_
          have hP9 := hP.sub (ws' := []) [] rfl
          have hD9 := hD.sub (ws' := []) [] (by decide) rfl
          have hK9 := hK.sub (tys' := []) [] rfl
          exact W.lret (v := j202) hx hb hr (fun t ht hW => ⟨⟨j202, (), rfl, trivial, by rw [ht]; exact hP9, va_K.moved hW.alike hK9, hD9⟩, hS.F ht⟩) hS.2.2 dX5_commonPart_47
        · have nz205 : ¬ j201 = 0 := lg_ne ez205 c206
          refine lv_lload hx hb dX5_commonPart_24 (lv_at hl 2 rfl) ?_
          refine lv_lload hx hb dX5_commonPart_26 (lv_at hl 1 rfl) ?_
          refine lv_lrem hx hb dX5_commonPart_28 nz205 ?_
          refine lv_topl (fun z207 ez207 => ?_)
          clear ez207
          refine lv_lstore (lv' := [(9, .long z207), (8, .int z200), (6, .long j201), (4, .long j202), (0, .long j0), (2, .long j1)]) hx hb dX5_commonPart_29 hl (by decide) rfl (fun ls hl => ?_)
          refine lv_lload hx hb dX5_commonPart_31 (lv_at hl 2 rfl) ?_
          refine lv_lstore (lv' := [(4, .long j201), (9, .long z207), (8, .int z200), (6, .long j201), (0, .long j0), (2, .long j1)]) hx hb dX5_commonPart_33 hl (by decide) rfl (fun ls hl => ?_)
          refine lv_lload hx hb dX5_commonPart_35 (lv_at hl 1 rfl) ?_
          refine lv_lstore (lv' := [(6, .long z207), (4, .long j201), (9, .long z207), (8, .int z200), (0, .long j0), (2, .long j1)]) hx hb dX5_commonPart_37 hl (by decide) rfl (fun ls hl => ?_)
          obtain ⟨z208, ez208⟩ : ∃ y : Int32, y = z200 + 1 := ⟨_, rfl⟩
          have tz208 : z208.toInt = z200.toInt + 1 := by rw [ez208, iadd_t (by simp only [ltv_1]; omega) (by simp only [ltv_1]; omega)]; simp only [ltv_1]
          refine lv_iinc (v := z208) (lv' := [(8, .int z208), (6, .long z207), (4, .long j201), (9, .long z207), (0, .long j0), (2, .long j1)]) hx hb dX5_commonPart_39 hl (k := 3) rfl (by rw [ez208]; rfl) (by decide) rfl (fun ls hl => ?_)
          refine lv_goto (tgt := 9) hx hb dX5_commonPart_42 (by decide) ?_
          exact ih9 z208 z207 j201 H locs ls (by first | omega | (simp only [ltv_0]; omega)) (by first | omega | (simp only [ltv_0]; omega)) hP hD hS (lv_sub hl [0, 1, 2, 4, 5] rfl)
  exact L9_203 1001 (0) j1 j0 s.heap _ ls (by first | omega | (simp only [ltv_0]; omega)) (by first | omega | (simp only [ltv_0]; omega)) hP hD hS (lv_sub hl [0, 1, 2, 3, 4] rfl)
theorem dX5_term_0 : decode cX5_term 0 = .ok (.ldc2_w 9, 3) := by decide +kernel
theorem dX5_term_10 : decode cX5_term 10 = .ok (.lcmp, 1) := by decide +kernel
theorem dX5_term_11 : decode cX5_term 11 = .ok (.ifCond .ne 5, 3) := by decide +kernel
theorem dX5_term_14 : decode cX5_term 14 = .ok (.lconst 0, 1) := by decide +kernel
theorem dX5_term_15 : decode cX5_term 15 = .ok (.lreturn, 1) := by decide +kernel
theorem dX5_term_16 : decode cX5_term 16 = .ok (.iload_n 2, 1) := by decide +kernel
theorem dX5_term_17 : decode cX5_term 17 = .ok (.ifCond .eq 9, 3) := by decide +kernel
theorem dX5_term_20 : decode cX5_term 20 = .ok (.ldc2_w 9, 3) := by decide +kernel
theorem dX5_term_23 : decode cX5_term 23 = .ok (.goto 4, 3) := by decide +kernel
theorem dX5_term_26 : decode cX5_term 26 = .ok (.lload_n 0, 1) := by decide +kernel
theorem dX5_term_27 : decode cX5_term 27 = .ok (.lload_n 3, 1) := by decide +kernel
theorem dX5_term_28 : decode cX5_term 28 = .ok (.ldiv, 1) := by decide +kernel
theorem dX5_term_29 : decode cX5_term 29 = .ok (.lreturn, 1) := by decide +kernel
theorem dX5_term_3 : decode cX5_term 3 = .ok (.lload_n 0, 1) := by decide +kernel
theorem dX5_term_4 : decode cX5_term 4 = .ok (.invokestatic 53, 3) := by decide +kernel
theorem dX5_term_7 : decode cX5_term 7 = .ok (.lstore_n 3, 1) := by decide +kernel
theorem dX5_term_8 : decode cX5_term 8 = .ok (.lload_n 3, 1) := by decide +kernel
theorem dX5_term_9 : decode cX5_term 9 = .ok (.lconst 0, 1) := by decide +kernel
def vX5_term : List Cond := .code yX5_term cX5_term 5 (some .long) :: ([.constantLong RX5 9 (1000000000000), .methodLink RX5 53 yX5_commonPart, .static yX5_commonPart, .initialized RX5, .code yX5_commonPart cX5_commonPart 11 (some .long)])
set_option maxRecDepth 20000 in
theorem gX5_term_0 : GoodIn vX5_term (va_wsS RX5 53 yX5_commonPart vX5_commonPart) := goodIn_app (goodIn_r [.methodLink RX5 53 yX5_commonPart, .static yX5_commonPart, .initialized RX5] [2, 3, 4] (by decide +kernel) (by decide +kernel)) (goodIn_r (.code yX5_commonPart cX5_commonPart 11 (some .long) :: []) [5] (by decide +kernel) (by decide +kernel) : GoodIn vX5_term (.code yX5_commonPart cX5_commonPart 11 (some .long) :: []))
set_option maxHeartbeats 2000000 in
set_option maxRecDepth 100000 in
theorem kX5_term (l : Launch) (dC : Nat → ClassId) (dI : Nat → Nat → Nat) (j0 : Int64) (k1 : Int32) (sz : Nat) : Met l yX5_term vX5_term ({ frames := 1, cells := 0, slots := 0, locals := 30 }) (PC (dC, dI) [.long j0, .int k1] sz [] []) (va_Ql (S := Unit) (fun (r : Int64) _ => True) (fun _ t => BC (dC, dI) (va_A [] sz) [] [] t) (va_A [] sz)) 0 0 (va_A [] sz) := by
  refine Met.ofW (cc := cX5_term) (maxL := 5) (ret := (some .long)) (by decide) rfl ?_
  intro p e s m args below meth c s₁ B hml hv
  obtain ⟨rfl, hsz, hP, hK, hD0, hN⟩ := hv
  have hx := B.exec
  have hb := B.bytes
  have hr := B.returns
  have hts := atoms_spec (ws := vX5_term) B.pre
  have hown : s.vm.findClass RX5 = some m.cls := findClass_of_methodNamed B.named
  have hlocks := B.notSynchronized
  subst hsz
  have hD := hD0.self (sz := s.heap.size)
  generalize hAe : va_A [] s.heap.size = A at hD ⊢
  have hA : ∀ q : Nat, s.heap.size ≤ q → A q := fun q h => by rw [← hAe]; exact Or.inr h
  have hS : va_S A s.heap s.heap [] := va_S.rf
  have hP : va_P (dC, dI) vwCl [] s.heap := hP
  have hl := lv_entry ([.long j0, .int k1]) (n := 5) (Nat.le_of_ble_eq_true rfl)
  rw [lg_entry_eq]
  generalize (lg_sl ([.long j0, .int k1]) ++ List.replicate (5 - (lg_sl ([.long j0, .int k1])).length) Slot.unset).toArray = ls at hl ⊢
  have hl : lv_has ls 5 [(0, .long j0), (2, .int k1)] := hl
  refine lv_ldc2 hx hb hown (hts (.constantLong RX5 9 (1000000000000)) (List.mem_of_getElem? (i := 1) rfl)) dX5_term_0 ?_
  refine lv_lload_n hx hb dX5_term_3 rfl (lv_at hl 0 rfl) ?_
  refine cl_l (wc := []) (wr := []) (va_runS (As := [.long 1000000000000, .long j0]) (rest := []) ⟨hx, hb, hml, hown, hts⟩ (kX5_commonPart l dC dI 1000000000000 j0  s.heap.size) (va_cwS 2 hts gX5_term_0 rfl rfl rfl (by decide +kernel) ⟨Nat.le_of_ble_eq_true rfl, Nat.le_of_ble_eq_true rfl⟩) (PS (hP.sub (ws' := []) [] rfl) (hK.sub (tys' := []) [] rfl) (hD.sub (ws' := []) [] (by decide) rfl) hN) rfl rfl hl.1 rfl (lv_room (Nat.le_of_ble_eq_true rfl)) dX5_term_4 ⟨Nat.le_of_ble_eq_true rfl, Nat.le_of_ble_eq_true rfl⟩) hP hD hK hS hA [] [] rfl rfl (by decide) (by decide) (fun z1 _u H locs hw hP hD hK hS => ?_)
  have b2 := hw
  have hP : va_P (dC, dI) vwCl [] H := hP
  have hD : va_D A [] := hD
  have hK : va_K (dC, dI) vwCl [] s := hK
  refine lv_lstore_n (lv' := [(3, .long z1), (0, .long j0), (2, .int k1)]) hx hb dX5_term_7 rfl hl (by decide) rfl (fun ls hl => ?_)
  refine lv_lload_n hx hb dX5_term_8 rfl (lv_at hl 0 rfl) ?_
  refine lv_lconst (v := 0) hx hb dX5_term_9 (by decide) ?_
  refine W.lcmp hx hb dX5_term_10 ?_
  refine lv_topi (fun z3 ez3 => ?_)
  refine lv_if_ne (tgt := 16) hx hb dX5_term_11 (by decide) (fun c4 => ?_) (fun c4 => ?_)
  · have nz3 : ¬ z1 = 0 := lg_ne ez3 c4
    refine lv_iload_n hx hb dX5_term_16 rfl (lv_at hl 2 rfl) ?_
    refine lv_if_eq (tgt := 26) hx hb dX5_term_17 (by decide) (fun c5 => ?_) (fun c5 => ?_)
    · simp only [fa_lt, fa_le, fa_eq, ltv_0] at c5
      refine lv_lload_n hx hb dX5_term_26 rfl (lv_at hl 1 rfl) ?_
      refine lv_lload_n hx hb dX5_term_27 rfl (lv_at hl 0 rfl) ?_
      refine lv_ldiv hx hb dX5_term_28 nz3 ?_
      refine lv_topl (fun z6 ez6 => ?_)
      clear ez6
      have hP9 := hP.sub (ws' := []) [] rfl
      have hD9 := hD.sub (ws' := []) [] (by decide) rfl
      have hK9 := hK.sub (tys' := []) [] rfl
      exact W.lret (v := z6) hx hb hr (fun t ht hW => ⟨⟨z6, (), rfl, trivial, by rw [ht]; exact hP9, va_K.moved hW.alike hK9, hD9⟩, hS.F ht⟩) hS.2.2 dX5_term_29
    · simp only [fa_lt, fa_le, fa_eq, ltv_0] at c5
      refine lv_ldc2 hx hb hown (hts (.constantLong RX5 9 (1000000000000)) (List.mem_of_getElem? (i := 1) rfl)) dX5_term_20 ?_
      refine lv_goto (tgt := 27) hx hb dX5_term_23 (by decide) ?_
      refine lv_lload_n hx hb dX5_term_27 rfl (lv_at hl 0 rfl) ?_
      refine lv_ldiv hx hb dX5_term_28 nz3 ?_
      refine lv_topl (fun z7 ez7 => ?_)
      clear ez7
      have hP9 := hP.sub (ws' := []) [] rfl
      have hD9 := hD.sub (ws' := []) [] (by decide) rfl
      have hK9 := hK.sub (tys' := []) [] rfl
      exact W.lret (v := z7) hx hb hr (fun t ht hW => ⟨⟨z7, (), rfl, trivial, by rw [ht]; exact hP9, va_K.moved hW.alike hK9, hD9⟩, hS.F ht⟩) hS.2.2 dX5_term_29
  · clear c4
    refine lv_lconst (v := 0) hx hb dX5_term_14 (by decide) ?_
    have hP9 := hP.sub (ws' := []) [] rfl
    have hD9 := hD.sub (ws' := []) [] (by decide) rfl
    have hK9 := hK.sub (tys' := []) [] rfl
    exact W.lret (v := 0) hx hb hr (fun t ht hW => ⟨⟨0, (), rfl, trivial, by rw [ht]; exact hP9, va_K.moved hW.alike hK9, hD9⟩, hS.F ht⟩) hS.2.2 dX5_term_15
