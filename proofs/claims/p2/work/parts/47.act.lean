theorem dX12_size_0 : decode cX12_size 0 = .ok (.aload_n 0, 1) := by decide +kernel
theorem dX12_size_1 : decode cX12_size 1 = .ok (.iconst 0, 1) := by decide +kernel
theorem dX12_size_100 : decode cX12_size 100 = .ok (.aload_n 0, 1) := by decide +kernel
theorem dX12_size_101 : decode cX12_size 101 = .ok (.getfield 299, 3) := by decide +kernel
theorem dX12_size_104 : decode cX12_size 104 = .ok (.getfield 207, 3) := by decide +kernel
theorem dX12_size_107 : decode cX12_size 107 = .ok (.ireturn, 1) := by decide +kernel
theorem dX12_size_108 : decode cX12_size 108 = .ok (.aload_n 0, 1) := by decide +kernel
theorem dX12_size_109 : decode cX12_size 109 = .ok (.getfield 299, 3) := by decide +kernel
theorem dX12_size_11 : decode cX12_size 11 = .ok (.aload_n 0, 1) := by decide +kernel
theorem dX12_size_112 : decode cX12_size 112 = .ok (.getfield 175, 3) := by decide +kernel
theorem dX12_size_115 : decode cX12_size 115 = .ok (.ireturn, 1) := by decide +kernel
theorem dX12_size_116 : decode cX12_size 116 = .ok (.aload_n 0, 1) := by decide +kernel
theorem dX12_size_117 : decode cX12_size 117 = .ok (.getfield 299, 3) := by decide +kernel
theorem dX12_size_12 : decode cX12_size 12 = .ok (.getfield 292, 3) := by decide +kernel
theorem dX12_size_120 : decode cX12_size 120 = .ok (.getfield 224, 3) := by decide +kernel
theorem dX12_size_123 : decode cX12_size 123 = .ok (.ireturn, 1) := by decide +kernel
theorem dX12_size_124 : decode cX12_size 124 = .ok (.aload_n 0, 1) := by decide +kernel
theorem dX12_size_125 : decode cX12_size 125 = .ok (.getfield 299, 3) := by decide +kernel
theorem dX12_size_128 : decode cX12_size 128 = .ok (.getfield 231, 3) := by decide +kernel
theorem dX12_size_131 : decode cX12_size 131 = .ok (.ireturn, 1) := by decide +kernel
theorem dX12_size_132 : decode cX12_size 132 = .ok (.aload_n 0, 1) := by decide +kernel
theorem dX12_size_133 : decode cX12_size 133 = .ok (.getfield 299, 3) := by decide +kernel
theorem dX12_size_136 : decode cX12_size 136 = .ok (.getfield 271, 3) := by decide +kernel
theorem dX12_size_139 : decode cX12_size 139 = .ok (.ireturn, 1) := by decide +kernel
theorem dX12_size_140 : decode cX12_size 140 = .ok (.aload_n 0, 1) := by decide +kernel
theorem dX12_size_141 : decode cX12_size 141 = .ok (.getfield 17, 3) := by decide +kernel
theorem dX12_size_144 : decode cX12_size 144 = .ok (.bipush 23, 2) := by decide +kernel
theorem dX12_size_146 : decode cX12_size 146 = .ok (.iaload, 1) := by decide +kernel
theorem dX12_size_147 : decode cX12_size 147 = .ok (.ireturn, 1) := by decide +kernel
theorem dX12_size_148 : decode cX12_size 148 = .ok (.aload_n 0, 1) := by decide +kernel
theorem dX12_size_149 : decode cX12_size 149 = .ok (.getfield 17, 3) := by decide +kernel
theorem dX12_size_15 : decode cX12_size 15 = .ok (.ireturn, 1) := by decide +kernel
theorem dX12_size_152 : decode cX12_size 152 = .ok (.bipush 24, 2) := by decide +kernel
theorem dX12_size_154 : decode cX12_size 154 = .ok (.iaload, 1) := by decide +kernel
theorem dX12_size_155 : decode cX12_size 155 = .ok (.ireturn, 1) := by decide +kernel
theorem dX12_size_156 : decode cX12_size 156 = .ok (.aload_n 0, 1) := by decide +kernel
theorem dX12_size_157 : decode cX12_size 157 = .ok (.getfield 17, 3) := by decide +kernel
theorem dX12_size_16 : decode cX12_size 16 = .ok (.iload_n 1, 1) := by decide +kernel
theorem dX12_size_160 : decode cX12_size 160 = .ok (.bipush 25, 2) := by decide +kernel
theorem dX12_size_162 : decode cX12_size 162 = .ok (.iaload, 1) := by decide +kernel
theorem dX12_size_163 : decode cX12_size 163 = .ok (.ireturn, 1) := by decide +kernel
theorem dX12_size_164 : decode cX12_size 164 = .ok (.aload_n 0, 1) := by decide +kernel
theorem dX12_size_165 : decode cX12_size 165 = .ok (.getfield 301, 3) := by decide +kernel
theorem dX12_size_168 : decode cX12_size 168 = .ok (.ireturn, 1) := by decide +kernel
theorem dX12_size_169 : decode cX12_size 169 = .ok (.aload_n 0, 1) := by decide +kernel
theorem dX12_size_17 : decode cX12_size 17 = .ok (.iconst 0, 1) := by decide +kernel
theorem dX12_size_170 : decode cX12_size 170 = .ok (.getfield 304, 3) := by decide +kernel
theorem dX12_size_173 : decode cX12_size 173 = .ok (.ireturn, 1) := by decide +kernel
theorem dX12_size_18 : decode cX12_size 18 = .ok (.bipush 10, 2) := by decide +kernel
theorem dX12_size_2 : decode cX12_size 2 = .ok (.putfield 36, 3) := by decide +kernel
theorem dX12_size_20 : decode cX12_size 20 = .ok (.invokestatic 115, 3) := by decide +kernel
theorem dX12_size_23 : decode cX12_size 23 = .ok (.ifCond .ne 5, 3) := by decide +kernel
theorem dX12_size_26 : decode cX12_size 26 = .ok (.iconst (-1), 1) := by decide +kernel
theorem dX12_size_27 : decode cX12_size 27 = .ok (.ireturn, 1) := by decide +kernel
theorem dX12_size_28 : decode cX12_size 28 = .ok (.aload_n 0, 1) := by decide +kernel
theorem dX12_size_29 : decode cX12_size 29 = .ok (.getfield 299, 3) := by decide +kernel
theorem dX12_size_32 : decode cX12_size 32 = .ok (.ifnonnull 5, 3) := by decide +kernel
theorem dX12_size_37 : decode cX12_size 37 = .ok (.iload_n 1, 1) := by decide +kernel
theorem dX12_size_38 : decode cX12_size 38 = .ok (.tableswitch 131 0 9 #[54, 62, 70, 78, 86, 94, 102, 110, 118, 126], 54) := by decide +kernel
theorem dX12_size_5 : decode cX12_size 5 = .ok (.iload_n 1, 1) := by decide +kernel
theorem dX12_size_6 : decode cX12_size 6 = .ok (.bipush 11, 2) := by decide +kernel
theorem dX12_size_8 : decode cX12_size 8 = .ok (.if_icmp .ne 8, 3) := by decide +kernel
theorem dX12_size_92 : decode cX12_size 92 = .ok (.aload_n 0, 1) := by decide +kernel
theorem dX12_size_93 : decode cX12_size 93 = .ok (.getfield 299, 3) := by decide +kernel
theorem dX12_size_96 : decode cX12_size 96 = .ok (.getfield 143, 3) := by decide +kernel
theorem dX12_size_99 : decode cX12_size 99 = .ok (.ireturn, 1) := by decide +kernel
def vfX12_size : List Cond := .code yX12_size cX12_size 2 (some .int) :: ([.fieldLink RX12 36 "HookPierModel" "thrown" "I", .methodLink RX12 115 yX12_in, .static yX12_in, .initialized RX12, .code yX12_in cX12_in 3 (some .boolean), .fieldLink RX12 299 "HookPierModel" "pier" "LHookPierModel$Pier;", .fieldLink RX12 17 "HookPierModel" "v" "[I", .fieldLink RX12 301 "HookPierModel" "acts" "I", .fieldLink RX12 304 "HookPierModel" "marks" "I", .fieldLink RX12 292 "HookPierModel" "taped" "I"] ++ wsX120 ++ wsX110)
theorem ifX12_size_X12 : ∀ w ∈ wsX120, w ∈ vfX12_size := fun _ h => List.mem_cons_of_mem _ (List.mem_append_left _ (List.mem_append_right _ h))
theorem ifX12_size_X11 : ∀ w ∈ wsX110, w ∈ vfX12_size := fun _ h => List.mem_cons_of_mem _ (List.mem_append_right _ h)
set_option maxRecDepth 20000 in
theorem gfX12_size_0 : GoodIn vfX12_size (va_wsS RX12 115 yX12_in vfX12_in) := goodIn_app (goodIn_r [.methodLink RX12 115 yX12_in, .static yX12_in, .initialized RX12] [2, 3, 4] (by decide +kernel) (by decide +kernel)) (goodIn_r (.code yX12_in cX12_in 3 (some .boolean) :: []) [5] (by decide +kernel) (by decide +kernel) : GoodIn vfX12_size (.code yX12_in cX12_in 3 (some .boolean) :: []))
set_option maxHeartbeats 2000000 in
set_option maxRecDepth 100000 in
theorem kfX12_size (l : Launch) (dC : Nat → ClassId) (dI : Nat → Nat → Nat) (a0 : Nat) (k1 : Int32) (a2 : Nat) (a3 : Nat) (a4 : Nat) (a5 : Nat) (a6 : Nat) (uq : Nat → Nat) (kq : Nat → ClassId) (m_t : TX12_t) (m_s : TX12_s) (m_v : TX12_v) (m_h : TX12_h) (g13 : Value) (g14 : Value) (g15 : Value) (g16 : Value) (g17 : Value) (g18 : Value) (g19 : Value) (g20 : Value) (g21 : Value) (g22 : Value) (g23 : Value) (q_q : TX11_q) (cB25 : ClassId) (cB26 : ClassId) (cB27 : ClassId) (cB28 : ClassId) (sz : Nat) (out : (Int32 × TX12_t)) (h : f_X12_size k1 m_t m_s m_v m_h q_q = out) : Met l yX12_size vfX12_size ({ frames := 1, cells := 0, slots := 0, locals := 22 }) (PC (dC, dI) [.ref a0, .int k1] sz ((a0, .inr (9, [.int m_t.1, .int m_t.2.1, .int m_t.2.2, .ref a2, g13, .ref a3, .int m_s.2.1, .int m_s.2.2.1, .int m_s.2.2.2.1, .int m_s.2.2.2.2.1, .int m_s.2.2.2.2.2.1, .int m_s.2.2.2.2.2.2.1, .int m_s.2.2.2.2.2.2.2.1, .int m_s.2.2.2.2.2.2.2.2.1, .long m_s.2.2.2.2.2.2.2.2.2, .ref a4, g14, .ref a5, .ref a6, .int m_h.2.2.1, .int m_h.2.2.2, g15, g16, g17, g18, g19, g20, g21, g22, g23])) :: bX11 a2 uq kq q_q ([(a3, .inl (cB25, 900, .inl m_s.1)), (a4, .inl (cB26, 26, .inl m_v)), (a5, .inl (cB27, 416, .inl m_h.1)), (a6, .inl (cB28, 78, .inl m_h.2.1))])) (tX11 kq ((cB25, .byte) :: (cB26, .int) :: (cB27, .int) :: (cB28, .int) :: []))) (va_Qi (S := Unit) (fun (r : Int32) _ => r = out.1) (fun _ t => BC (dC, dI) (va_A ((a0, .inr (9, [.int m_t.1, .int m_t.2.1, .int m_t.2.2, .ref a2, g13, .ref a3, .int m_s.2.1, .int m_s.2.2.1, .int m_s.2.2.2.1, .int m_s.2.2.2.2.1, .int m_s.2.2.2.2.2.1, .int m_s.2.2.2.2.2.2.1, .int m_s.2.2.2.2.2.2.2.1, .int m_s.2.2.2.2.2.2.2.2.1, .long m_s.2.2.2.2.2.2.2.2.2, .ref a4, g14, .ref a5, .ref a6, .int m_h.2.2.1, .int m_h.2.2.2, g15, g16, g17, g18, g19, g20, g21, g22, g23])) :: bX11 a2 uq kq q_q ([(a3, .inl (cB25, 900, .inl m_s.1)), (a4, .inl (cB26, 26, .inl m_v)), (a5, .inl (cB27, 416, .inl m_h.1)), (a6, .inl (cB28, 78, .inl m_h.2.1))])) sz) ((a0, .inr (9, [.int out.2.1, .int out.2.2.1, .int out.2.2.2, .ref a2, g13, .ref a3, .int m_s.2.1, .int m_s.2.2.1, .int m_s.2.2.2.1, .int m_s.2.2.2.2.1, .int m_s.2.2.2.2.2.1, .int m_s.2.2.2.2.2.2.1, .int m_s.2.2.2.2.2.2.2.1, .int m_s.2.2.2.2.2.2.2.2.1, .long m_s.2.2.2.2.2.2.2.2.2, .ref a4, g14, .ref a5, .ref a6, .int m_h.2.2.1, .int m_h.2.2.2, g15, g16, g17, g18, g19, g20, g21, g22, g23])) :: bX11 a2 uq kq q_q ([(a3, .inl (cB25, 900, .inl m_s.1)), (a4, .inl (cB26, 26, .inl m_v)), (a5, .inl (cB27, 416, .inl m_h.1)), (a6, .inl (cB28, 78, .inl m_h.2.1))])) [] t) (va_A ((a0, .inr (9, [.int m_t.1, .int m_t.2.1, .int m_t.2.2, .ref a2, g13, .ref a3, .int m_s.2.1, .int m_s.2.2.1, .int m_s.2.2.2.1, .int m_s.2.2.2.2.1, .int m_s.2.2.2.2.2.1, .int m_s.2.2.2.2.2.2.1, .int m_s.2.2.2.2.2.2.2.1, .int m_s.2.2.2.2.2.2.2.2.1, .long m_s.2.2.2.2.2.2.2.2.2, .ref a4, g14, .ref a5, .ref a6, .int m_h.2.2.1, .int m_h.2.2.2, g15, g16, g17, g18, g19, g20, g21, g22, g23])) :: bX11 a2 uq kq q_q ([(a3, .inl (cB25, 900, .inl m_s.1)), (a4, .inl (cB26, 26, .inl m_v)), (a5, .inl (cB27, 416, .inl m_h.1)), (a6, .inl (cB28, 78, .inl m_h.2.1))])) sz)) 0 0 (va_A ((a0, .inr (9, [.int m_t.1, .int m_t.2.1, .int m_t.2.2, .ref a2, g13, .ref a3, .int m_s.2.1, .int m_s.2.2.1, .int m_s.2.2.2.1, .int m_s.2.2.2.2.1, .int m_s.2.2.2.2.2.1, .int m_s.2.2.2.2.2.2.1, .int m_s.2.2.2.2.2.2.2.1, .int m_s.2.2.2.2.2.2.2.2.1, .long m_s.2.2.2.2.2.2.2.2.2, .ref a4, g14, .ref a5, .ref a6, .int m_h.2.2.1, .int m_h.2.2.2, g15, g16, g17, g18, g19, g20, g21, g22, g23])) :: bX11 a2 uq kq q_q ([(a3, .inl (cB25, 900, .inl m_s.1)), (a4, .inl (cB26, 26, .inl m_v)), (a5, .inl (cB27, 416, .inl m_h.1)), (a6, .inl (cB28, 78, .inl m_h.2.1))])) sz) := by
  refine Met.ofW (cc := cX12_size) (maxL := 2) (ret := (some .int)) (by decide) rfl ?_
  intro p e s m args below meth c s₁ B0 hml hv
  obtain ⟨rfl, hsz, hP, hK, hD0, hN⟩ := hv
  have hx := B0.exec
  have hb := B0.bytes
  have hr := B0.returns
  have hts := atoms_spec (ws := vfX12_size) B0.pre
  have hown : s.vm.findClass RX12 = some m.cls := findClass_of_methodNamed B0.named
  have hlocks := B0.notSynchronized
  subst hsz
  have hD := hD0.self (sz := s.heap.size)
  generalize hAe : va_A ((a0, .inr (9, [.int m_t.1, .int m_t.2.1, .int m_t.2.2, .ref a2, g13, .ref a3, .int m_s.2.1, .int m_s.2.2.1, .int m_s.2.2.2.1, .int m_s.2.2.2.2.1, .int m_s.2.2.2.2.2.1, .int m_s.2.2.2.2.2.2.1, .int m_s.2.2.2.2.2.2.2.1, .int m_s.2.2.2.2.2.2.2.2.1, .long m_s.2.2.2.2.2.2.2.2.2, .ref a4, g14, .ref a5, .ref a6, .int m_h.2.2.1, .int m_h.2.2.2, g15, g16, g17, g18, g19, g20, g21, g22, g23])) :: bX11 a2 uq kq q_q ([(a3, .inl (cB25, 900, .inl m_s.1)), (a4, .inl (cB26, 26, .inl m_v)), (a5, .inl (cB27, 416, .inl m_h.1)), (a6, .inl (cB28, 78, .inl m_h.2.1))])) s.heap.size = A at hD ⊢
  have hA : ∀ q : Nat, s.heap.size ≤ q → A q := fun q h => by rw [← hAe]; exact Or.inr h
  have hS : va_S A s.heap s.heap [] := va_S.rf
  have hP : va_P (dC, dI) vwCl ((a0, .inr (9, [.int m_t.1, .int m_t.2.1, .int m_t.2.2, .ref a2, g13, .ref a3, .int m_s.2.1, .int m_s.2.2.1, .int m_s.2.2.2.1, .int m_s.2.2.2.2.1, .int m_s.2.2.2.2.2.1, .int m_s.2.2.2.2.2.2.1, .int m_s.2.2.2.2.2.2.2.1, .int m_s.2.2.2.2.2.2.2.2.1, .long m_s.2.2.2.2.2.2.2.2.2, .ref a4, g14, .ref a5, .ref a6, .int m_h.2.2.1, .int m_h.2.2.2, g15, g16, g17, g18, g19, g20, g21, g22, g23])) :: bX11 a2 uq kq q_q ([(a3, .inl (cB25, 900, .inl m_s.1)), (a4, .inl (cB26, 26, .inl m_v)), (a5, .inl (cB27, 416, .inl m_h.1)), (a6, .inl (cB28, 78, .inl m_h.2.1))])) s.heap := hP
  have hl := lv_entry ([.ref a0, .int k1]) (n := 2) (Nat.le_of_ble_eq_true rfl)
  rw [lg_entry_eq]
  generalize (lg_sl ([.ref a0, .int k1]) ++ List.replicate (2 - (lg_sl ([.ref a0, .int k1])).length) Slot.unset).toArray = ls at hl ⊢
  have hl : lv_has ls 2 [(0, .ref a0), (1, .int k1)] := hl
  refine W_q (fun QQ hQQ => ?_)
  rw [f_X12_size] at h
  refine lv_aload_n hx hb dX12_size_0 rfl (lv_at hl 0 rfl) ?_
  refine lv_iconst (v := 0) hx hb dX12_size_1 (by decide) ?_
  refine va_put (D := (dC, dI)) (ci := 9) (v := .int 0) (ty := .int) (C := RX12) (T := TX12) (N := 30) hx hb hts ifX12_size_X12 tyX12 tyX12_ok nmX12 hown hK hP hD hS 0 rfl rfl 0 (by decide) (hts (.fieldLink RX12 36 "HookPierModel" "thrown" "I") (List.mem_of_getElem? (i := 1) rfl)) (fun _ h9 => h9) rfl (by decide +kernel) rfl rfl (Nat.le_of_ble_eq_true rfl) dX12_size_2 (fun H locs hP hD hS => ?_)
  have hP : va_P (dC, dI) vwCl ((a0, .inr (9, [.int 0, .int m_t.2.1, .int m_t.2.2, .ref a2, g13, .ref a3, .int m_s.2.1, .int m_s.2.2.1, .int m_s.2.2.2.1, .int m_s.2.2.2.2.1, .int m_s.2.2.2.2.2.1, .int m_s.2.2.2.2.2.2.1, .int m_s.2.2.2.2.2.2.2.1, .int m_s.2.2.2.2.2.2.2.2.1, .long m_s.2.2.2.2.2.2.2.2.2, .ref a4, g14, .ref a5, .ref a6, .int m_h.2.2.1, .int m_h.2.2.2, g15, g16, g17, g18, g19, g20, g21, g22, g23])) :: bX11 a2 uq kq q_q ([(a3, .inl (cB25, 900, .inl m_s.1)), (a4, .inl (cB26, 26, .inl m_v)), (a5, .inl (cB27, 416, .inl m_h.1)), (a6, .inl (cB28, 78, .inl m_h.2.1))])) H := hP
  have hD : va_D A ((a0, .inr (9, [.int 0, .int m_t.2.1, .int m_t.2.2, .ref a2, g13, .ref a3, .int m_s.2.1, .int m_s.2.2.1, .int m_s.2.2.2.1, .int m_s.2.2.2.2.1, .int m_s.2.2.2.2.2.1, .int m_s.2.2.2.2.2.2.1, .int m_s.2.2.2.2.2.2.2.1, .int m_s.2.2.2.2.2.2.2.2.1, .long m_s.2.2.2.2.2.2.2.2.2, .ref a4, g14, .ref a5, .ref a6, .int m_h.2.2.1, .int m_h.2.2.2, g15, g16, g17, g18, g19, g20, g21, g22, g23])) :: bX11 a2 uq kq q_q ([(a3, .inl (cB25, 900, .inl m_s.1)), (a4, .inl (cB26, 26, .inl m_v)), (a5, .inl (cB27, 416, .inl m_h.1)), (a6, .inl (cB28, 78, .inl m_h.2.1))])) := hD
  refine lv_iload_n hx hb dX12_size_5 rfl (lv_at hl 1 rfl) ?_
  refine lv_bipush (v := 11) hx hb dX12_size_6 (by decide) ?_
  refine lv_icmp_ne (tgt := 16) hx hb dX12_size_8 (by decide) (fun c8 => ?_) (fun c8 => ?_)
  · have h := (if_neg c8).symm.trans h
    refine lv_iload_n hx hb dX12_size_16 rfl (lv_at hl 1 rfl) ?_
    refine lv_iconst (v := 0) hx hb dX12_size_17 (by decide) ?_
    refine lv_bipush (v := 10) hx hb dX12_size_18 (by decide) ?_
    obtain ⟨o20, eo20⟩ : ∃ o, o = f_X12_in k1 (0 : Int32) (10 : Int32) := ⟨_, rfl⟩
    have h := nm_of h o20 eo20
    refine cl_i (wc := []) (wr := ((a0, .inr (9, [.int 0, .int m_t.2.1, .int m_t.2.2, .ref a2, g13, .ref a3, .int m_s.2.1, .int m_s.2.2.1, .int m_s.2.2.2.1, .int m_s.2.2.2.2.1, .int m_s.2.2.2.2.2.1, .int m_s.2.2.2.2.2.2.1, .int m_s.2.2.2.2.2.2.2.1, .int m_s.2.2.2.2.2.2.2.2.1, .long m_s.2.2.2.2.2.2.2.2.2, .ref a4, g14, .ref a5, .ref a6, .int m_h.2.2.1, .int m_h.2.2.2, g15, g16, g17, g18, g19, g20, g21, g22, g23])) :: bX11 a2 uq kq q_q ([(a3, .inl (cB25, 900, .inl m_s.1)), (a4, .inl (cB26, 26, .inl m_v)), (a5, .inl (cB27, 416, .inl m_h.1)), (a6, .inl (cB28, 78, .inl m_h.2.1))]))) (va_runS (As := [.int k1, .int 0, .int 10]) (rest := []) ⟨hx, hb, hml, hown, hts⟩ (kfX12_in l dC dI k1 (0 : Int32) (10 : Int32) H.size o20 eo20.symm) (va_cwS 3 hts gfX12_size_0 rfl rfl rfl (by decide +kernel) ⟨(Nat.le_of_ble_eq_true rfl), (Nat.le_of_ble_eq_true rfl)⟩) (PS (hP.sub (ws' := []) [] rfl) (hK.sub (tys' := ([])) [] rfl) (hD.sub (ws' := []) [] (by decide) rfl) hN) rfl rfl hl.1 rfl (lv_room (Nat.le_of_ble_eq_true rfl)) dX12_size_20 ⟨(Nat.le_of_ble_eq_true rfl), (Nat.le_of_ble_eq_true rfl)⟩) hP hD hK hS hA [] [0, 1, 2, 3, 4, 5, 6, 7, 8, 9, 10, 11, 12, 13, 14, 15, 16, 17, 18, 19] rfl rfl (by decide) (by decide) (fun r20 _ H locs hw hP hD _ hS => ?_)
    obtain ⟨hw, br20⟩ := hw
    obtain rfl := hw.symm
    have hP : va_P (dC, dI) vwCl ((a0, .inr (9, [.int 0, .int m_t.2.1, .int m_t.2.2, .ref a2, g13, .ref a3, .int m_s.2.1, .int m_s.2.2.1, .int m_s.2.2.2.1, .int m_s.2.2.2.2.1, .int m_s.2.2.2.2.2.1, .int m_s.2.2.2.2.2.2.1, .int m_s.2.2.2.2.2.2.2.1, .int m_s.2.2.2.2.2.2.2.2.1, .long m_s.2.2.2.2.2.2.2.2.2, .ref a4, g14, .ref a5, .ref a6, .int m_h.2.2.1, .int m_h.2.2.2, g15, g16, g17, g18, g19, g20, g21, g22, g23])) :: bX11 a2 uq kq q_q ([(a3, .inl (cB25, 900, .inl m_s.1)), (a4, .inl (cB26, 26, .inl m_v)), (a5, .inl (cB27, 416, .inl m_h.1)), (a6, .inl (cB28, 78, .inl m_h.2.1))])) H := hP
    have hD : va_D A ((a0, .inr (9, [.int 0, .int m_t.2.1, .int m_t.2.2, .ref a2, g13, .ref a3, .int m_s.2.1, .int m_s.2.2.1, .int m_s.2.2.2.1, .int m_s.2.2.2.2.1, .int m_s.2.2.2.2.2.1, .int m_s.2.2.2.2.2.2.1, .int m_s.2.2.2.2.2.2.2.1, .int m_s.2.2.2.2.2.2.2.2.1, .long m_s.2.2.2.2.2.2.2.2.2, .ref a4, g14, .ref a5, .ref a6, .int m_h.2.2.1, .int m_h.2.2.2, g15, g16, g17, g18, g19, g20, g21, g22, g23])) :: bX11 a2 uq kq q_q ([(a3, .inl (cB25, 900, .inl m_s.1)), (a4, .inl (cB26, 26, .inl m_v)), (a5, .inl (cB27, 416, .inl m_h.1)), (a6, .inl (cB28, 78, .inl m_h.2.1))])) := hD
    refine lv_if_ne (tgt := 28) hx hb dX12_size_23 (by decide) (fun c23 => ?_) (fun c23 => ?_)
    · have h := (if_neg c23).symm.trans h
      refine lv_aload_n hx hb dX12_size_28 rfl (lv_at hl 0 rfl) ?_
      refine va_get (D := (dC, dI)) (ci := 9) (v := .ref a2) (C := RX12) (T := TX12) (N := 30) hx hb hts ifX12_size_X12 hown hK hP 0 rfl rfl 3 (by decide) (hts (.fieldLink RX12 299 "HookPierModel" "pier" "LHookPierModel$Pier;") (List.mem_of_getElem? (i := 6) rfl)) (fun _ h9 => h9) rfl dX12_size_29 ?_
      refine lv_ifnonnull (tgt := 37) hx hb dX12_size_32 (by decide) ?_
      refine lv_iload_n hx hb dX12_size_37 rfl (lv_at hl 1 rfl) ?_
      by_cases c38_0 : k1 = 0
      · have h := (if_pos c38_0).symm.trans h
        refine lv_tableIn (tgt := 92) hx hb dX12_size_38 (by rw [c38_0]; decide) (by rw [c38_0]; decide) (by rw [c38_0]; rfl) (by decide) ?_
        refine lv_aload_n hx hb dX12_size_92 rfl (lv_at hl 0 rfl) ?_
        refine va_get (D := (dC, dI)) (ci := 9) (v := .ref a2) (C := RX12) (T := TX12) (N := 30) hx hb hts ifX12_size_X12 hown hK hP 0 rfl rfl 3 (by decide) (hts (.fieldLink RX12 299 "HookPierModel" "pier" "LHookPierModel$Pier;") (List.mem_of_getElem? (i := 6) rfl)) (fun _ h9 => h9) rfl dX12_size_93 ?_
        refine va_getN (D := (dC, dI)) (ci := 8) (v := .int q_q.1) (C := RX11) (T := TX11) (N := 24) hx hb hts ifX12_size_X11 hown hK hP 1 rfl rfl 0 (by decide) (va_Nw.use rfl (hN.1 (.fieldLinkNest RX12 143 "HookPierModel$Pier" "spots" "I" "HookPierModel") (List.mem_of_getElem? (i := 22) rfl))) (fun _ h9 => h9) rfl dX12_size_96 ?_
        obtain rfl := h
        have hP9 := hP.sub (ws' := ((a0, .inr (9, [.int 0, .int m_t.2.1, .int m_t.2.2, .ref a2, g13, .ref a3, .int m_s.2.1, .int m_s.2.2.1, .int m_s.2.2.2.1, .int m_s.2.2.2.2.1, .int m_s.2.2.2.2.2.1, .int m_s.2.2.2.2.2.2.1, .int m_s.2.2.2.2.2.2.2.1, .int m_s.2.2.2.2.2.2.2.2.1, .long m_s.2.2.2.2.2.2.2.2.2, .ref a4, g14, .ref a5, .ref a6, .int m_h.2.2.1, .int m_h.2.2.2, g15, g16, g17, g18, g19, g20, g21, g22, g23])) :: bX11 a2 uq kq q_q ([(a3, .inl (cB25, 900, .inl m_s.1)), (a4, .inl (cB26, 26, .inl m_v)), (a5, .inl (cB27, 416, .inl m_h.1)), (a6, .inl (cB28, 78, .inl m_h.2.1))]))) [0, 1, 2, 3, 4, 5, 6, 7, 8, 9, 10, 11, 12, 13, 14, 15, 16, 17, 18, 19] rfl
        have hD9 := hD.sub (ws' := ((a0, .inr (9, [.int 0, .int m_t.2.1, .int m_t.2.2, .ref a2, g13, .ref a3, .int m_s.2.1, .int m_s.2.2.1, .int m_s.2.2.2.1, .int m_s.2.2.2.2.1, .int m_s.2.2.2.2.2.1, .int m_s.2.2.2.2.2.2.1, .int m_s.2.2.2.2.2.2.2.1, .int m_s.2.2.2.2.2.2.2.2.1, .long m_s.2.2.2.2.2.2.2.2.2, .ref a4, g14, .ref a5, .ref a6, .int m_h.2.2.1, .int m_h.2.2.2, g15, g16, g17, g18, g19, g20, g21, g22, g23])) :: bX11 a2 uq kq q_q ([(a3, .inl (cB25, 900, .inl m_s.1)), (a4, .inl (cB26, 26, .inl m_v)), (a5, .inl (cB27, 416, .inl m_h.1)), (a6, .inl (cB28, 78, .inl m_h.2.1))]))) [0, 1, 2, 3, 4, 5, 6, 7, 8, 9, 10, 11, 12, 13, 14, 15, 16, 17, 18, 19] (by decide) rfl
        have hK9 := hK.sub (tys' := []) [] rfl
        rw [hQQ]
        exact W.iret (v := q_q.1) hx hb hr (fun t ht hW => ⟨⟨q_q.1, (), rfl, rfl, by rw [ht]; exact hP9, va_K.moved hW.alike hK9, hD9⟩, hS.F ht⟩) hS.2.2 dX12_size_99
      have h := (if_neg c38_0).symm.trans h
      by_cases c38_1 : k1 = 1
      · have h := (if_pos c38_1).symm.trans h
        refine lv_tableIn (tgt := 100) hx hb dX12_size_38 (by rw [c38_1]; decide) (by rw [c38_1]; decide) (by rw [c38_1]; rfl) (by decide) ?_
        refine lv_aload_n hx hb dX12_size_100 rfl (lv_at hl 0 rfl) ?_
        refine va_get (D := (dC, dI)) (ci := 9) (v := .ref a2) (C := RX12) (T := TX12) (N := 30) hx hb hts ifX12_size_X12 hown hK hP 0 rfl rfl 3 (by decide) (hts (.fieldLink RX12 299 "HookPierModel" "pier" "LHookPierModel$Pier;") (List.mem_of_getElem? (i := 6) rfl)) (fun _ h9 => h9) rfl dX12_size_101 ?_
        refine va_getN (D := (dC, dI)) (ci := 8) (v := .int q_q.2.1) (C := RX11) (T := TX11) (N := 24) hx hb hts ifX12_size_X11 hown hK hP 1 rfl rfl 1 (by decide) (va_Nw.use rfl (hN.1 (.fieldLinkNest RX12 207 "HookPierModel$Pier" "deep" "I" "HookPierModel") (List.mem_of_getElem? (i := 23) rfl))) (fun _ h9 => h9) rfl dX12_size_104 ?_
        obtain rfl := h
        have hP9 := hP.sub (ws' := ((a0, .inr (9, [.int 0, .int m_t.2.1, .int m_t.2.2, .ref a2, g13, .ref a3, .int m_s.2.1, .int m_s.2.2.1, .int m_s.2.2.2.1, .int m_s.2.2.2.2.1, .int m_s.2.2.2.2.2.1, .int m_s.2.2.2.2.2.2.1, .int m_s.2.2.2.2.2.2.2.1, .int m_s.2.2.2.2.2.2.2.2.1, .long m_s.2.2.2.2.2.2.2.2.2, .ref a4, g14, .ref a5, .ref a6, .int m_h.2.2.1, .int m_h.2.2.2, g15, g16, g17, g18, g19, g20, g21, g22, g23])) :: bX11 a2 uq kq q_q ([(a3, .inl (cB25, 900, .inl m_s.1)), (a4, .inl (cB26, 26, .inl m_v)), (a5, .inl (cB27, 416, .inl m_h.1)), (a6, .inl (cB28, 78, .inl m_h.2.1))]))) [0, 1, 2, 3, 4, 5, 6, 7, 8, 9, 10, 11, 12, 13, 14, 15, 16, 17, 18, 19] rfl
        have hD9 := hD.sub (ws' := ((a0, .inr (9, [.int 0, .int m_t.2.1, .int m_t.2.2, .ref a2, g13, .ref a3, .int m_s.2.1, .int m_s.2.2.1, .int m_s.2.2.2.1, .int m_s.2.2.2.2.1, .int m_s.2.2.2.2.2.1, .int m_s.2.2.2.2.2.2.1, .int m_s.2.2.2.2.2.2.2.1, .int m_s.2.2.2.2.2.2.2.2.1, .long m_s.2.2.2.2.2.2.2.2.2, .ref a4, g14, .ref a5, .ref a6, .int m_h.2.2.1, .int m_h.2.2.2, g15, g16, g17, g18, g19, g20, g21, g22, g23])) :: bX11 a2 uq kq q_q ([(a3, .inl (cB25, 900, .inl m_s.1)), (a4, .inl (cB26, 26, .inl m_v)), (a5, .inl (cB27, 416, .inl m_h.1)), (a6, .inl (cB28, 78, .inl m_h.2.1))]))) [0, 1, 2, 3, 4, 5, 6, 7, 8, 9, 10, 11, 12, 13, 14, 15, 16, 17, 18, 19] (by decide) rfl
        have hK9 := hK.sub (tys' := []) [] rfl
        rw [hQQ]
        exact W.iret (v := q_q.2.1) hx hb hr (fun t ht hW => ⟨⟨q_q.2.1, (), rfl, rfl, by rw [ht]; exact hP9, va_K.moved hW.alike hK9, hD9⟩, hS.F ht⟩) hS.2.2 dX12_size_107
      have h := (if_neg c38_1).symm.trans h
      by_cases c38_2 : k1 = 2
      · have h := (if_pos c38_2).symm.trans h
        refine lv_tableIn (tgt := 108) hx hb dX12_size_38 (by rw [c38_2]; decide) (by rw [c38_2]; decide) (by rw [c38_2]; rfl) (by decide) ?_
        refine lv_aload_n hx hb dX12_size_108 rfl (lv_at hl 0 rfl) ?_
        refine va_get (D := (dC, dI)) (ci := 9) (v := .ref a2) (C := RX12) (T := TX12) (N := 30) hx hb hts ifX12_size_X12 hown hK hP 0 rfl rfl 3 (by decide) (hts (.fieldLink RX12 299 "HookPierModel" "pier" "LHookPierModel$Pier;") (List.mem_of_getElem? (i := 6) rfl)) (fun _ h9 => h9) rfl dX12_size_109 ?_
        refine va_getN (D := (dC, dI)) (ci := 8) (v := .int q_q.2.2.2.2.1) (C := RX11) (T := TX11) (N := 24) hx hb hts ifX12_size_X11 hown hK hP 1 rfl rfl 4 (by decide) (va_Nw.use rfl (hN.1 (.fieldLinkNest RX12 175 "HookPierModel$Pier" "baits" "I" "HookPierModel") (List.mem_of_getElem? (i := 26) rfl))) (fun _ h9 => h9) rfl dX12_size_112 ?_
        obtain rfl := h
        have hP9 := hP.sub (ws' := ((a0, .inr (9, [.int 0, .int m_t.2.1, .int m_t.2.2, .ref a2, g13, .ref a3, .int m_s.2.1, .int m_s.2.2.1, .int m_s.2.2.2.1, .int m_s.2.2.2.2.1, .int m_s.2.2.2.2.2.1, .int m_s.2.2.2.2.2.2.1, .int m_s.2.2.2.2.2.2.2.1, .int m_s.2.2.2.2.2.2.2.2.1, .long m_s.2.2.2.2.2.2.2.2.2, .ref a4, g14, .ref a5, .ref a6, .int m_h.2.2.1, .int m_h.2.2.2, g15, g16, g17, g18, g19, g20, g21, g22, g23])) :: bX11 a2 uq kq q_q ([(a3, .inl (cB25, 900, .inl m_s.1)), (a4, .inl (cB26, 26, .inl m_v)), (a5, .inl (cB27, 416, .inl m_h.1)), (a6, .inl (cB28, 78, .inl m_h.2.1))]))) [0, 1, 2, 3, 4, 5, 6, 7, 8, 9, 10, 11, 12, 13, 14, 15, 16, 17, 18, 19] rfl
        have hD9 := hD.sub (ws' := ((a0, .inr (9, [.int 0, .int m_t.2.1, .int m_t.2.2, .ref a2, g13, .ref a3, .int m_s.2.1, .int m_s.2.2.1, .int m_s.2.2.2.1, .int m_s.2.2.2.2.1, .int m_s.2.2.2.2.2.1, .int m_s.2.2.2.2.2.2.1, .int m_s.2.2.2.2.2.2.2.1, .int m_s.2.2.2.2.2.2.2.2.1, .long m_s.2.2.2.2.2.2.2.2.2, .ref a4, g14, .ref a5, .ref a6, .int m_h.2.2.1, .int m_h.2.2.2, g15, g16, g17, g18, g19, g20, g21, g22, g23])) :: bX11 a2 uq kq q_q ([(a3, .inl (cB25, 900, .inl m_s.1)), (a4, .inl (cB26, 26, .inl m_v)), (a5, .inl (cB27, 416, .inl m_h.1)), (a6, .inl (cB28, 78, .inl m_h.2.1))]))) [0, 1, 2, 3, 4, 5, 6, 7, 8, 9, 10, 11, 12, 13, 14, 15, 16, 17, 18, 19] (by decide) rfl
        have hK9 := hK.sub (tys' := []) [] rfl
        rw [hQQ]
        exact W.iret (v := q_q.2.2.2.2.1) hx hb hr (fun t ht hW => ⟨⟨q_q.2.2.2.2.1, (), rfl, rfl, by rw [ht]; exact hP9, va_K.moved hW.alike hK9, hD9⟩, hS.F ht⟩) hS.2.2 dX12_size_115
      have h := (if_neg c38_2).symm.trans h
      by_cases c38_3 : k1 = 3
      · have h := (if_pos c38_3).symm.trans h
        refine lv_tableIn (tgt := 116) hx hb dX12_size_38 (by rw [c38_3]; decide) (by rw [c38_3]; decide) (by rw [c38_3]; rfl) (by decide) ?_
        refine lv_aload_n hx hb dX12_size_116 rfl (lv_at hl 0 rfl) ?_
        refine va_get (D := (dC, dI)) (ci := 9) (v := .ref a2) (C := RX12) (T := TX12) (N := 30) hx hb hts ifX12_size_X12 hown hK hP 0 rfl rfl 3 (by decide) (hts (.fieldLink RX12 299 "HookPierModel" "pier" "LHookPierModel$Pier;") (List.mem_of_getElem? (i := 6) rfl)) (fun _ h9 => h9) rfl dX12_size_117 ?_
        refine va_getN (D := (dC, dI)) (ci := 8) (v := .int q_q.2.2.2.2.2.1) (C := RX11) (T := TX11) (N := 24) hx hb hts ifX12_size_X11 hown hK hP 1 rfl rfl 5 (by decide) (va_Nw.use rfl (hN.1 (.fieldLinkNest RX12 224 "HookPierModel$Pier" "askers" "I" "HookPierModel") (List.mem_of_getElem? (i := 27) rfl))) (fun _ h9 => h9) rfl dX12_size_120 ?_
        obtain rfl := h
        have hP9 := hP.sub (ws' := ((a0, .inr (9, [.int 0, .int m_t.2.1, .int m_t.2.2, .ref a2, g13, .ref a3, .int m_s.2.1, .int m_s.2.2.1, .int m_s.2.2.2.1, .int m_s.2.2.2.2.1, .int m_s.2.2.2.2.2.1, .int m_s.2.2.2.2.2.2.1, .int m_s.2.2.2.2.2.2.2.1, .int m_s.2.2.2.2.2.2.2.2.1, .long m_s.2.2.2.2.2.2.2.2.2, .ref a4, g14, .ref a5, .ref a6, .int m_h.2.2.1, .int m_h.2.2.2, g15, g16, g17, g18, g19, g20, g21, g22, g23])) :: bX11 a2 uq kq q_q ([(a3, .inl (cB25, 900, .inl m_s.1)), (a4, .inl (cB26, 26, .inl m_v)), (a5, .inl (cB27, 416, .inl m_h.1)), (a6, .inl (cB28, 78, .inl m_h.2.1))]))) [0, 1, 2, 3, 4, 5, 6, 7, 8, 9, 10, 11, 12, 13, 14, 15, 16, 17, 18, 19] rfl
        have hD9 := hD.sub (ws' := ((a0, .inr (9, [.int 0, .int m_t.2.1, .int m_t.2.2, .ref a2, g13, .ref a3, .int m_s.2.1, .int m_s.2.2.1, .int m_s.2.2.2.1, .int m_s.2.2.2.2.1, .int m_s.2.2.2.2.2.1, .int m_s.2.2.2.2.2.2.1, .int m_s.2.2.2.2.2.2.2.1, .int m_s.2.2.2.2.2.2.2.2.1, .long m_s.2.2.2.2.2.2.2.2.2, .ref a4, g14, .ref a5, .ref a6, .int m_h.2.2.1, .int m_h.2.2.2, g15, g16, g17, g18, g19, g20, g21, g22, g23])) :: bX11 a2 uq kq q_q ([(a3, .inl (cB25, 900, .inl m_s.1)), (a4, .inl (cB26, 26, .inl m_v)), (a5, .inl (cB27, 416, .inl m_h.1)), (a6, .inl (cB28, 78, .inl m_h.2.1))]))) [0, 1, 2, 3, 4, 5, 6, 7, 8, 9, 10, 11, 12, 13, 14, 15, 16, 17, 18, 19] (by decide) rfl
        have hK9 := hK.sub (tys' := []) [] rfl
        rw [hQQ]
        exact W.iret (v := q_q.2.2.2.2.2.1) hx hb hr (fun t ht hW => ⟨⟨q_q.2.2.2.2.2.1, (), rfl, rfl, by rw [ht]; exact hP9, va_K.moved hW.alike hK9, hD9⟩, hS.F ht⟩) hS.2.2 dX12_size_123
      have h := (if_neg c38_3).symm.trans h
      by_cases c38_4 : k1 = 4
      · have h := (if_pos c38_4).symm.trans h
        refine lv_tableIn (tgt := 124) hx hb dX12_size_38 (by rw [c38_4]; decide) (by rw [c38_4]; decide) (by rw [c38_4]; rfl) (by decide) ?_
        refine lv_aload_n hx hb dX12_size_124 rfl (lv_at hl 0 rfl) ?_
        refine va_get (D := (dC, dI)) (ci := 9) (v := .ref a2) (C := RX12) (T := TX12) (N := 30) hx hb hts ifX12_size_X12 hown hK hP 0 rfl rfl 3 (by decide) (hts (.fieldLink RX12 299 "HookPierModel" "pier" "LHookPierModel$Pier;") (List.mem_of_getElem? (i := 6) rfl)) (fun _ h9 => h9) rfl dX12_size_125 ?_
        refine va_getN (D := (dC, dI)) (ci := 8) (v := .int q_q.2.2.2.2.2.2.1) (C := RX11) (T := TX11) (N := 24) hx hb hts ifX12_size_X11 hown hK hP 1 rfl rfl 6 (by decide) (va_Nw.use rfl (hN.1 (.fieldLinkNest RX12 231 "HookPierModel$Pier" "answers" "I" "HookPierModel") (List.mem_of_getElem? (i := 28) rfl))) (fun _ h9 => h9) rfl dX12_size_128 ?_
        obtain rfl := h
        have hP9 := hP.sub (ws' := ((a0, .inr (9, [.int 0, .int m_t.2.1, .int m_t.2.2, .ref a2, g13, .ref a3, .int m_s.2.1, .int m_s.2.2.1, .int m_s.2.2.2.1, .int m_s.2.2.2.2.1, .int m_s.2.2.2.2.2.1, .int m_s.2.2.2.2.2.2.1, .int m_s.2.2.2.2.2.2.2.1, .int m_s.2.2.2.2.2.2.2.2.1, .long m_s.2.2.2.2.2.2.2.2.2, .ref a4, g14, .ref a5, .ref a6, .int m_h.2.2.1, .int m_h.2.2.2, g15, g16, g17, g18, g19, g20, g21, g22, g23])) :: bX11 a2 uq kq q_q ([(a3, .inl (cB25, 900, .inl m_s.1)), (a4, .inl (cB26, 26, .inl m_v)), (a5, .inl (cB27, 416, .inl m_h.1)), (a6, .inl (cB28, 78, .inl m_h.2.1))]))) [0, 1, 2, 3, 4, 5, 6, 7, 8, 9, 10, 11, 12, 13, 14, 15, 16, 17, 18, 19] rfl
        have hD9 := hD.sub (ws' := ((a0, .inr (9, [.int 0, .int m_t.2.1, .int m_t.2.2, .ref a2, g13, .ref a3, .int m_s.2.1, .int m_s.2.2.1, .int m_s.2.2.2.1, .int m_s.2.2.2.2.1, .int m_s.2.2.2.2.2.1, .int m_s.2.2.2.2.2.2.1, .int m_s.2.2.2.2.2.2.2.1, .int m_s.2.2.2.2.2.2.2.2.1, .long m_s.2.2.2.2.2.2.2.2.2, .ref a4, g14, .ref a5, .ref a6, .int m_h.2.2.1, .int m_h.2.2.2, g15, g16, g17, g18, g19, g20, g21, g22, g23])) :: bX11 a2 uq kq q_q ([(a3, .inl (cB25, 900, .inl m_s.1)), (a4, .inl (cB26, 26, .inl m_v)), (a5, .inl (cB27, 416, .inl m_h.1)), (a6, .inl (cB28, 78, .inl m_h.2.1))]))) [0, 1, 2, 3, 4, 5, 6, 7, 8, 9, 10, 11, 12, 13, 14, 15, 16, 17, 18, 19] (by decide) rfl
        have hK9 := hK.sub (tys' := []) [] rfl
        rw [hQQ]
        exact W.iret (v := q_q.2.2.2.2.2.2.1) hx hb hr (fun t ht hW => ⟨⟨q_q.2.2.2.2.2.2.1, (), rfl, rfl, by rw [ht]; exact hP9, va_K.moved hW.alike hK9, hD9⟩, hS.F ht⟩) hS.2.2 dX12_size_131
      have h := (if_neg c38_4).symm.trans h
      by_cases c38_5 : k1 = 5
      · have h := (if_pos c38_5).symm.trans h
        refine lv_tableIn (tgt := 132) hx hb dX12_size_38 (by rw [c38_5]; decide) (by rw [c38_5]; decide) (by rw [c38_5]; rfl) (by decide) ?_
        refine lv_aload_n hx hb dX12_size_132 rfl (lv_at hl 0 rfl) ?_
        refine va_get (D := (dC, dI)) (ci := 9) (v := .ref a2) (C := RX12) (T := TX12) (N := 30) hx hb hts ifX12_size_X12 hown hK hP 0 rfl rfl 3 (by decide) (hts (.fieldLink RX12 299 "HookPierModel" "pier" "LHookPierModel$Pier;") (List.mem_of_getElem? (i := 6) rfl)) (fun _ h9 => h9) rfl dX12_size_133 ?_
        refine va_getN (D := (dC, dI)) (ci := 8) (v := .int q_q.2.2.2.2.2.2.2.1) (C := RX11) (T := TX11) (N := 24) hx hb hts ifX12_size_X11 hown hK hP 1 rfl rfl 7 (by decide) (va_Nw.use rfl (hN.1 (.fieldLinkNest RX12 271 "HookPierModel$Pier" "bites" "I" "HookPierModel") (List.mem_of_getElem? (i := 29) rfl))) (fun _ h9 => h9) rfl dX12_size_136 ?_
        obtain rfl := h
        have hP9 := hP.sub (ws' := ((a0, .inr (9, [.int 0, .int m_t.2.1, .int m_t.2.2, .ref a2, g13, .ref a3, .int m_s.2.1, .int m_s.2.2.1, .int m_s.2.2.2.1, .int m_s.2.2.2.2.1, .int m_s.2.2.2.2.2.1, .int m_s.2.2.2.2.2.2.1, .int m_s.2.2.2.2.2.2.2.1, .int m_s.2.2.2.2.2.2.2.2.1, .long m_s.2.2.2.2.2.2.2.2.2, .ref a4, g14, .ref a5, .ref a6, .int m_h.2.2.1, .int m_h.2.2.2, g15, g16, g17, g18, g19, g20, g21, g22, g23])) :: bX11 a2 uq kq q_q ([(a3, .inl (cB25, 900, .inl m_s.1)), (a4, .inl (cB26, 26, .inl m_v)), (a5, .inl (cB27, 416, .inl m_h.1)), (a6, .inl (cB28, 78, .inl m_h.2.1))]))) [0, 1, 2, 3, 4, 5, 6, 7, 8, 9, 10, 11, 12, 13, 14, 15, 16, 17, 18, 19] rfl
        have hD9 := hD.sub (ws' := ((a0, .inr (9, [.int 0, .int m_t.2.1, .int m_t.2.2, .ref a2, g13, .ref a3, .int m_s.2.1, .int m_s.2.2.1, .int m_s.2.2.2.1, .int m_s.2.2.2.2.1, .int m_s.2.2.2.2.2.1, .int m_s.2.2.2.2.2.2.1, .int m_s.2.2.2.2.2.2.2.1, .int m_s.2.2.2.2.2.2.2.2.1, .long m_s.2.2.2.2.2.2.2.2.2, .ref a4, g14, .ref a5, .ref a6, .int m_h.2.2.1, .int m_h.2.2.2, g15, g16, g17, g18, g19, g20, g21, g22, g23])) :: bX11 a2 uq kq q_q ([(a3, .inl (cB25, 900, .inl m_s.1)), (a4, .inl (cB26, 26, .inl m_v)), (a5, .inl (cB27, 416, .inl m_h.1)), (a6, .inl (cB28, 78, .inl m_h.2.1))]))) [0, 1, 2, 3, 4, 5, 6, 7, 8, 9, 10, 11, 12, 13, 14, 15, 16, 17, 18, 19] (by decide) rfl
        have hK9 := hK.sub (tys' := []) [] rfl
        rw [hQQ]
        exact W.iret (v := q_q.2.2.2.2.2.2.2.1) hx hb hr (fun t ht hW => ⟨⟨q_q.2.2.2.2.2.2.2.1, (), rfl, rfl, by rw [ht]; exact hP9, va_K.moved hW.alike hK9, hD9⟩, hS.F ht⟩) hS.2.2 dX12_size_139
      have h := (if_neg c38_5).symm.trans h
      by_cases c38_6 : k1 = 6
      · have h := (if_pos c38_6).symm.trans h
        refine lv_tableIn (tgt := 140) hx hb dX12_size_38 (by rw [c38_6]; decide) (by rw [c38_6]; decide) (by rw [c38_6]; rfl) (by decide) ?_
        refine lv_aload_n hx hb dX12_size_140 rfl (lv_at hl 0 rfl) ?_
        refine va_get (D := (dC, dI)) (ci := 9) (v := .ref a4) (C := RX12) (T := TX12) (N := 30) hx hb hts ifX12_size_X12 hown hK hP 0 rfl rfl 15 (by decide) (hts (.fieldLink RX12 17 "HookPierModel" "v" "[I") (List.mem_of_getElem? (i := 7) rfl)) (fun _ h9 => h9) rfl dX12_size_141 ?_
        refine lv_bipush (v := 23) hx hb dX12_size_144 (by decide) ?_
        refine va_iald hx hb hK hP 17 15 rfl rfl (by unfold vp_in; decide) dX12_size_146 ?_
        obtain rfl := h
        have hP9 := hP.sub (ws' := ((a0, .inr (9, [.int 0, .int m_t.2.1, .int m_t.2.2, .ref a2, g13, .ref a3, .int m_s.2.1, .int m_s.2.2.1, .int m_s.2.2.2.1, .int m_s.2.2.2.2.1, .int m_s.2.2.2.2.2.1, .int m_s.2.2.2.2.2.2.1, .int m_s.2.2.2.2.2.2.2.1, .int m_s.2.2.2.2.2.2.2.2.1, .long m_s.2.2.2.2.2.2.2.2.2, .ref a4, g14, .ref a5, .ref a6, .int m_h.2.2.1, .int m_h.2.2.2, g15, g16, g17, g18, g19, g20, g21, g22, g23])) :: bX11 a2 uq kq q_q ([(a3, .inl (cB25, 900, .inl m_s.1)), (a4, .inl (cB26, 26, .inl m_v)), (a5, .inl (cB27, 416, .inl m_h.1)), (a6, .inl (cB28, 78, .inl m_h.2.1))]))) [0, 1, 2, 3, 4, 5, 6, 7, 8, 9, 10, 11, 12, 13, 14, 15, 16, 17, 18, 19] rfl
        have hD9 := hD.sub (ws' := ((a0, .inr (9, [.int 0, .int m_t.2.1, .int m_t.2.2, .ref a2, g13, .ref a3, .int m_s.2.1, .int m_s.2.2.1, .int m_s.2.2.2.1, .int m_s.2.2.2.2.1, .int m_s.2.2.2.2.2.1, .int m_s.2.2.2.2.2.2.1, .int m_s.2.2.2.2.2.2.2.1, .int m_s.2.2.2.2.2.2.2.2.1, .long m_s.2.2.2.2.2.2.2.2.2, .ref a4, g14, .ref a5, .ref a6, .int m_h.2.2.1, .int m_h.2.2.2, g15, g16, g17, g18, g19, g20, g21, g22, g23])) :: bX11 a2 uq kq q_q ([(a3, .inl (cB25, 900, .inl m_s.1)), (a4, .inl (cB26, 26, .inl m_v)), (a5, .inl (cB27, 416, .inl m_h.1)), (a6, .inl (cB28, 78, .inl m_h.2.1))]))) [0, 1, 2, 3, 4, 5, 6, 7, 8, 9, 10, 11, 12, 13, 14, 15, 16, 17, 18, 19] (by decide) rfl
        have hK9 := hK.sub (tys' := []) [] rfl
        rw [hQQ]
        exact W.iret (v := (m_v ((23 : Int32)).toNatClampNeg)) hx hb hr (fun t ht hW => ⟨⟨(m_v ((23 : Int32)).toNatClampNeg), (), rfl, rfl, by rw [ht]; exact hP9, va_K.moved hW.alike hK9, hD9⟩, hS.F ht⟩) hS.2.2 dX12_size_147
      have h := (if_neg c38_6).symm.trans h
      by_cases c38_7 : k1 = 7
      · have h := (if_pos c38_7).symm.trans h
        refine lv_tableIn (tgt := 148) hx hb dX12_size_38 (by rw [c38_7]; decide) (by rw [c38_7]; decide) (by rw [c38_7]; rfl) (by decide) ?_
        refine lv_aload_n hx hb dX12_size_148 rfl (lv_at hl 0 rfl) ?_
        refine va_get (D := (dC, dI)) (ci := 9) (v := .ref a4) (C := RX12) (T := TX12) (N := 30) hx hb hts ifX12_size_X12 hown hK hP 0 rfl rfl 15 (by decide) (hts (.fieldLink RX12 17 "HookPierModel" "v" "[I") (List.mem_of_getElem? (i := 7) rfl)) (fun _ h9 => h9) rfl dX12_size_149 ?_
        refine lv_bipush (v := 24) hx hb dX12_size_152 (by decide) ?_
        refine va_iald hx hb hK hP 17 15 rfl rfl (by unfold vp_in; decide) dX12_size_154 ?_
        obtain rfl := h
        have hP9 := hP.sub (ws' := ((a0, .inr (9, [.int 0, .int m_t.2.1, .int m_t.2.2, .ref a2, g13, .ref a3, .int m_s.2.1, .int m_s.2.2.1, .int m_s.2.2.2.1, .int m_s.2.2.2.2.1, .int m_s.2.2.2.2.2.1, .int m_s.2.2.2.2.2.2.1, .int m_s.2.2.2.2.2.2.2.1, .int m_s.2.2.2.2.2.2.2.2.1, .long m_s.2.2.2.2.2.2.2.2.2, .ref a4, g14, .ref a5, .ref a6, .int m_h.2.2.1, .int m_h.2.2.2, g15, g16, g17, g18, g19, g20, g21, g22, g23])) :: bX11 a2 uq kq q_q ([(a3, .inl (cB25, 900, .inl m_s.1)), (a4, .inl (cB26, 26, .inl m_v)), (a5, .inl (cB27, 416, .inl m_h.1)), (a6, .inl (cB28, 78, .inl m_h.2.1))]))) [0, 1, 2, 3, 4, 5, 6, 7, 8, 9, 10, 11, 12, 13, 14, 15, 16, 17, 18, 19] rfl
        have hD9 := hD.sub (ws' := ((a0, .inr (9, [.int 0, .int m_t.2.1, .int m_t.2.2, .ref a2, g13, .ref a3, .int m_s.2.1, .int m_s.2.2.1, .int m_s.2.2.2.1, .int m_s.2.2.2.2.1, .int m_s.2.2.2.2.2.1, .int m_s.2.2.2.2.2.2.1, .int m_s.2.2.2.2.2.2.2.1, .int m_s.2.2.2.2.2.2.2.2.1, .long m_s.2.2.2.2.2.2.2.2.2, .ref a4, g14, .ref a5, .ref a6, .int m_h.2.2.1, .int m_h.2.2.2, g15, g16, g17, g18, g19, g20, g21, g22, g23])) :: bX11 a2 uq kq q_q ([(a3, .inl (cB25, 900, .inl m_s.1)), (a4, .inl (cB26, 26, .inl m_v)), (a5, .inl (cB27, 416, .inl m_h.1)), (a6, .inl (cB28, 78, .inl m_h.2.1))]))) [0, 1, 2, 3, 4, 5, 6, 7, 8, 9, 10, 11, 12, 13, 14, 15, 16, 17, 18, 19] (by decide) rfl
        have hK9 := hK.sub (tys' := []) [] rfl
        rw [hQQ]
        exact W.iret (v := (m_v ((24 : Int32)).toNatClampNeg)) hx hb hr (fun t ht hW => ⟨⟨(m_v ((24 : Int32)).toNatClampNeg), (), rfl, rfl, by rw [ht]; exact hP9, va_K.moved hW.alike hK9, hD9⟩, hS.F ht⟩) hS.2.2 dX12_size_155
      have h := (if_neg c38_7).symm.trans h
      by_cases c38_8 : k1 = 8
      · have h := (if_pos c38_8).symm.trans h
        refine lv_tableIn (tgt := 156) hx hb dX12_size_38 (by rw [c38_8]; decide) (by rw [c38_8]; decide) (by rw [c38_8]; rfl) (by decide) ?_
        refine lv_aload_n hx hb dX12_size_156 rfl (lv_at hl 0 rfl) ?_
        refine va_get (D := (dC, dI)) (ci := 9) (v := .ref a4) (C := RX12) (T := TX12) (N := 30) hx hb hts ifX12_size_X12 hown hK hP 0 rfl rfl 15 (by decide) (hts (.fieldLink RX12 17 "HookPierModel" "v" "[I") (List.mem_of_getElem? (i := 7) rfl)) (fun _ h9 => h9) rfl dX12_size_157 ?_
        refine lv_bipush (v := 25) hx hb dX12_size_160 (by decide) ?_
        refine va_iald hx hb hK hP 17 15 rfl rfl (by unfold vp_in; decide) dX12_size_162 ?_
        obtain rfl := h
        have hP9 := hP.sub (ws' := ((a0, .inr (9, [.int 0, .int m_t.2.1, .int m_t.2.2, .ref a2, g13, .ref a3, .int m_s.2.1, .int m_s.2.2.1, .int m_s.2.2.2.1, .int m_s.2.2.2.2.1, .int m_s.2.2.2.2.2.1, .int m_s.2.2.2.2.2.2.1, .int m_s.2.2.2.2.2.2.2.1, .int m_s.2.2.2.2.2.2.2.2.1, .long m_s.2.2.2.2.2.2.2.2.2, .ref a4, g14, .ref a5, .ref a6, .int m_h.2.2.1, .int m_h.2.2.2, g15, g16, g17, g18, g19, g20, g21, g22, g23])) :: bX11 a2 uq kq q_q ([(a3, .inl (cB25, 900, .inl m_s.1)), (a4, .inl (cB26, 26, .inl m_v)), (a5, .inl (cB27, 416, .inl m_h.1)), (a6, .inl (cB28, 78, .inl m_h.2.1))]))) [0, 1, 2, 3, 4, 5, 6, 7, 8, 9, 10, 11, 12, 13, 14, 15, 16, 17, 18, 19] rfl
        have hD9 := hD.sub (ws' := ((a0, .inr (9, [.int 0, .int m_t.2.1, .int m_t.2.2, .ref a2, g13, .ref a3, .int m_s.2.1, .int m_s.2.2.1, .int m_s.2.2.2.1, .int m_s.2.2.2.2.1, .int m_s.2.2.2.2.2.1, .int m_s.2.2.2.2.2.2.1, .int m_s.2.2.2.2.2.2.2.1, .int m_s.2.2.2.2.2.2.2.2.1, .long m_s.2.2.2.2.2.2.2.2.2, .ref a4, g14, .ref a5, .ref a6, .int m_h.2.2.1, .int m_h.2.2.2, g15, g16, g17, g18, g19, g20, g21, g22, g23])) :: bX11 a2 uq kq q_q ([(a3, .inl (cB25, 900, .inl m_s.1)), (a4, .inl (cB26, 26, .inl m_v)), (a5, .inl (cB27, 416, .inl m_h.1)), (a6, .inl (cB28, 78, .inl m_h.2.1))]))) [0, 1, 2, 3, 4, 5, 6, 7, 8, 9, 10, 11, 12, 13, 14, 15, 16, 17, 18, 19] (by decide) rfl
        have hK9 := hK.sub (tys' := []) [] rfl
        rw [hQQ]
        exact W.iret (v := (m_v ((25 : Int32)).toNatClampNeg)) hx hb hr (fun t ht hW => ⟨⟨(m_v ((25 : Int32)).toNatClampNeg), (), rfl, rfl, by rw [ht]; exact hP9, va_K.moved hW.alike hK9, hD9⟩, hS.F ht⟩) hS.2.2 dX12_size_163
      have h := (if_neg c38_8).symm.trans h
      by_cases c38_9 : k1 = 9
      · have h := (if_pos c38_9).symm.trans h
        refine lv_tableIn (tgt := 164) hx hb dX12_size_38 (by rw [c38_9]; decide) (by rw [c38_9]; decide) (by rw [c38_9]; rfl) (by decide) ?_
        refine lv_aload_n hx hb dX12_size_164 rfl (lv_at hl 0 rfl) ?_
        refine va_get (D := (dC, dI)) (ci := 9) (v := .int m_h.2.2.1) (C := RX12) (T := TX12) (N := 30) hx hb hts ifX12_size_X12 hown hK hP 0 rfl rfl 19 (by decide) (hts (.fieldLink RX12 301 "HookPierModel" "acts" "I") (List.mem_of_getElem? (i := 8) rfl)) (fun _ h9 => h9) rfl dX12_size_165 ?_
        obtain rfl := h
        have hP9 := hP.sub (ws' := ((a0, .inr (9, [.int 0, .int m_t.2.1, .int m_t.2.2, .ref a2, g13, .ref a3, .int m_s.2.1, .int m_s.2.2.1, .int m_s.2.2.2.1, .int m_s.2.2.2.2.1, .int m_s.2.2.2.2.2.1, .int m_s.2.2.2.2.2.2.1, .int m_s.2.2.2.2.2.2.2.1, .int m_s.2.2.2.2.2.2.2.2.1, .long m_s.2.2.2.2.2.2.2.2.2, .ref a4, g14, .ref a5, .ref a6, .int m_h.2.2.1, .int m_h.2.2.2, g15, g16, g17, g18, g19, g20, g21, g22, g23])) :: bX11 a2 uq kq q_q ([(a3, .inl (cB25, 900, .inl m_s.1)), (a4, .inl (cB26, 26, .inl m_v)), (a5, .inl (cB27, 416, .inl m_h.1)), (a6, .inl (cB28, 78, .inl m_h.2.1))]))) [0, 1, 2, 3, 4, 5, 6, 7, 8, 9, 10, 11, 12, 13, 14, 15, 16, 17, 18, 19] rfl
        have hD9 := hD.sub (ws' := ((a0, .inr (9, [.int 0, .int m_t.2.1, .int m_t.2.2, .ref a2, g13, .ref a3, .int m_s.2.1, .int m_s.2.2.1, .int m_s.2.2.2.1, .int m_s.2.2.2.2.1, .int m_s.2.2.2.2.2.1, .int m_s.2.2.2.2.2.2.1, .int m_s.2.2.2.2.2.2.2.1, .int m_s.2.2.2.2.2.2.2.2.1, .long m_s.2.2.2.2.2.2.2.2.2, .ref a4, g14, .ref a5, .ref a6, .int m_h.2.2.1, .int m_h.2.2.2, g15, g16, g17, g18, g19, g20, g21, g22, g23])) :: bX11 a2 uq kq q_q ([(a3, .inl (cB25, 900, .inl m_s.1)), (a4, .inl (cB26, 26, .inl m_v)), (a5, .inl (cB27, 416, .inl m_h.1)), (a6, .inl (cB28, 78, .inl m_h.2.1))]))) [0, 1, 2, 3, 4, 5, 6, 7, 8, 9, 10, 11, 12, 13, 14, 15, 16, 17, 18, 19] (by decide) rfl
        have hK9 := hK.sub (tys' := []) [] rfl
        rw [hQQ]
        exact W.iret (v := m_h.2.2.1) hx hb hr (fun t ht hW => ⟨⟨m_h.2.2.1, (), rfl, rfl, by rw [ht]; exact hP9, va_K.moved hW.alike hK9, hD9⟩, hS.F ht⟩) hS.2.2 dX12_size_168
      have h := (if_neg c38_9).symm.trans h
      refine lv_tableOut (tgt := 169) hx hb dX12_size_38 (by simp only [fa_eq, ltv_0, ltv_1, ltv_2, ltv_3, ltv_4, ltv_5, ltv_6, ltv_7, ltv_8, ltv_9] at c38_0 c38_1 c38_2 c38_3 c38_4 c38_5 c38_6 c38_7 c38_8 c38_9; omega) (by decide) ?_
      refine lv_aload_n hx hb dX12_size_169 rfl (lv_at hl 0 rfl) ?_
      refine va_get (D := (dC, dI)) (ci := 9) (v := .int m_h.2.2.2) (C := RX12) (T := TX12) (N := 30) hx hb hts ifX12_size_X12 hown hK hP 0 rfl rfl 20 (by decide) (hts (.fieldLink RX12 304 "HookPierModel" "marks" "I") (List.mem_of_getElem? (i := 9) rfl)) (fun _ h9 => h9) rfl dX12_size_170 ?_
      obtain rfl := h
      have hP9 := hP.sub (ws' := ((a0, .inr (9, [.int 0, .int m_t.2.1, .int m_t.2.2, .ref a2, g13, .ref a3, .int m_s.2.1, .int m_s.2.2.1, .int m_s.2.2.2.1, .int m_s.2.2.2.2.1, .int m_s.2.2.2.2.2.1, .int m_s.2.2.2.2.2.2.1, .int m_s.2.2.2.2.2.2.2.1, .int m_s.2.2.2.2.2.2.2.2.1, .long m_s.2.2.2.2.2.2.2.2.2, .ref a4, g14, .ref a5, .ref a6, .int m_h.2.2.1, .int m_h.2.2.2, g15, g16, g17, g18, g19, g20, g21, g22, g23])) :: bX11 a2 uq kq q_q ([(a3, .inl (cB25, 900, .inl m_s.1)), (a4, .inl (cB26, 26, .inl m_v)), (a5, .inl (cB27, 416, .inl m_h.1)), (a6, .inl (cB28, 78, .inl m_h.2.1))]))) [0, 1, 2, 3, 4, 5, 6, 7, 8, 9, 10, 11, 12, 13, 14, 15, 16, 17, 18, 19] rfl
      have hD9 := hD.sub (ws' := ((a0, .inr (9, [.int 0, .int m_t.2.1, .int m_t.2.2, .ref a2, g13, .ref a3, .int m_s.2.1, .int m_s.2.2.1, .int m_s.2.2.2.1, .int m_s.2.2.2.2.1, .int m_s.2.2.2.2.2.1, .int m_s.2.2.2.2.2.2.1, .int m_s.2.2.2.2.2.2.2.1, .int m_s.2.2.2.2.2.2.2.2.1, .long m_s.2.2.2.2.2.2.2.2.2, .ref a4, g14, .ref a5, .ref a6, .int m_h.2.2.1, .int m_h.2.2.2, g15, g16, g17, g18, g19, g20, g21, g22, g23])) :: bX11 a2 uq kq q_q ([(a3, .inl (cB25, 900, .inl m_s.1)), (a4, .inl (cB26, 26, .inl m_v)), (a5, .inl (cB27, 416, .inl m_h.1)), (a6, .inl (cB28, 78, .inl m_h.2.1))]))) [0, 1, 2, 3, 4, 5, 6, 7, 8, 9, 10, 11, 12, 13, 14, 15, 16, 17, 18, 19] (by decide) rfl
      have hK9 := hK.sub (tys' := []) [] rfl
      rw [hQQ]
      exact W.iret (v := m_h.2.2.2) hx hb hr (fun t ht hW => ⟨⟨m_h.2.2.2, (), rfl, rfl, by rw [ht]; exact hP9, va_K.moved hW.alike hK9, hD9⟩, hS.F ht⟩) hS.2.2 dX12_size_173
    · have h := (if_pos c23).symm.trans h
      refine lv_iconst (v := (-1)) hx hb dX12_size_26 (by decide) ?_
      obtain rfl := h
      have hP9 := hP.sub (ws' := ((a0, .inr (9, [.int 0, .int m_t.2.1, .int m_t.2.2, .ref a2, g13, .ref a3, .int m_s.2.1, .int m_s.2.2.1, .int m_s.2.2.2.1, .int m_s.2.2.2.2.1, .int m_s.2.2.2.2.2.1, .int m_s.2.2.2.2.2.2.1, .int m_s.2.2.2.2.2.2.2.1, .int m_s.2.2.2.2.2.2.2.2.1, .long m_s.2.2.2.2.2.2.2.2.2, .ref a4, g14, .ref a5, .ref a6, .int m_h.2.2.1, .int m_h.2.2.2, g15, g16, g17, g18, g19, g20, g21, g22, g23])) :: bX11 a2 uq kq q_q ([(a3, .inl (cB25, 900, .inl m_s.1)), (a4, .inl (cB26, 26, .inl m_v)), (a5, .inl (cB27, 416, .inl m_h.1)), (a6, .inl (cB28, 78, .inl m_h.2.1))]))) [0, 1, 2, 3, 4, 5, 6, 7, 8, 9, 10, 11, 12, 13, 14, 15, 16, 17, 18, 19] rfl
      have hD9 := hD.sub (ws' := ((a0, .inr (9, [.int 0, .int m_t.2.1, .int m_t.2.2, .ref a2, g13, .ref a3, .int m_s.2.1, .int m_s.2.2.1, .int m_s.2.2.2.1, .int m_s.2.2.2.2.1, .int m_s.2.2.2.2.2.1, .int m_s.2.2.2.2.2.2.1, .int m_s.2.2.2.2.2.2.2.1, .int m_s.2.2.2.2.2.2.2.2.1, .long m_s.2.2.2.2.2.2.2.2.2, .ref a4, g14, .ref a5, .ref a6, .int m_h.2.2.1, .int m_h.2.2.2, g15, g16, g17, g18, g19, g20, g21, g22, g23])) :: bX11 a2 uq kq q_q ([(a3, .inl (cB25, 900, .inl m_s.1)), (a4, .inl (cB26, 26, .inl m_v)), (a5, .inl (cB27, 416, .inl m_h.1)), (a6, .inl (cB28, 78, .inl m_h.2.1))]))) [0, 1, 2, 3, 4, 5, 6, 7, 8, 9, 10, 11, 12, 13, 14, 15, 16, 17, 18, 19] (by decide) rfl
      have hK9 := hK.sub (tys' := []) [] rfl
      rw [hQQ]
      exact W.iret (v := (-1 : Int32)) hx hb hr (fun t ht hW => ⟨⟨(-1 : Int32), (), rfl, rfl, by rw [ht]; exact hP9, va_K.moved hW.alike hK9, hD9⟩, hS.F ht⟩) hS.2.2 dX12_size_27
  · have h := (if_pos c8).symm.trans h
    refine lv_aload_n hx hb dX12_size_11 rfl (lv_at hl 0 rfl) ?_
    refine va_get (D := (dC, dI)) (ci := 9) (v := .int m_s.2.1) (C := RX12) (T := TX12) (N := 30) hx hb hts ifX12_size_X12 hown hK hP 0 rfl rfl 6 (by decide) (hts (.fieldLink RX12 292 "HookPierModel" "taped" "I") (List.mem_of_getElem? (i := 10) rfl)) (fun _ h9 => h9) rfl dX12_size_12 ?_
    obtain rfl := h
    have hP9 := hP.sub (ws' := ((a0, .inr (9, [.int 0, .int m_t.2.1, .int m_t.2.2, .ref a2, g13, .ref a3, .int m_s.2.1, .int m_s.2.2.1, .int m_s.2.2.2.1, .int m_s.2.2.2.2.1, .int m_s.2.2.2.2.2.1, .int m_s.2.2.2.2.2.2.1, .int m_s.2.2.2.2.2.2.2.1, .int m_s.2.2.2.2.2.2.2.2.1, .long m_s.2.2.2.2.2.2.2.2.2, .ref a4, g14, .ref a5, .ref a6, .int m_h.2.2.1, .int m_h.2.2.2, g15, g16, g17, g18, g19, g20, g21, g22, g23])) :: bX11 a2 uq kq q_q ([(a3, .inl (cB25, 900, .inl m_s.1)), (a4, .inl (cB26, 26, .inl m_v)), (a5, .inl (cB27, 416, .inl m_h.1)), (a6, .inl (cB28, 78, .inl m_h.2.1))]))) [0, 1, 2, 3, 4, 5, 6, 7, 8, 9, 10, 11, 12, 13, 14, 15, 16, 17, 18, 19] rfl
    have hD9 := hD.sub (ws' := ((a0, .inr (9, [.int 0, .int m_t.2.1, .int m_t.2.2, .ref a2, g13, .ref a3, .int m_s.2.1, .int m_s.2.2.1, .int m_s.2.2.2.1, .int m_s.2.2.2.2.1, .int m_s.2.2.2.2.2.1, .int m_s.2.2.2.2.2.2.1, .int m_s.2.2.2.2.2.2.2.1, .int m_s.2.2.2.2.2.2.2.2.1, .long m_s.2.2.2.2.2.2.2.2.2, .ref a4, g14, .ref a5, .ref a6, .int m_h.2.2.1, .int m_h.2.2.2, g15, g16, g17, g18, g19, g20, g21, g22, g23])) :: bX11 a2 uq kq q_q ([(a3, .inl (cB25, 900, .inl m_s.1)), (a4, .inl (cB26, 26, .inl m_v)), (a5, .inl (cB27, 416, .inl m_h.1)), (a6, .inl (cB28, 78, .inl m_h.2.1))]))) [0, 1, 2, 3, 4, 5, 6, 7, 8, 9, 10, 11, 12, 13, 14, 15, 16, 17, 18, 19] (by decide) rfl
    have hK9 := hK.sub (tys' := []) [] rfl
    rw [hQQ]
    exact W.iret (v := m_s.2.1) hx hb hr (fun t ht hW => ⟨⟨m_s.2.1, (), rfl, rfl, by rw [ht]; exact hP9, va_K.moved hW.alike hK9, hD9⟩, hS.F ht⟩) hS.2.2 dX12_size_15
theorem dX12_trouble_0 : decode cX12_trouble 0 = .ok (.aload_n 0, 1) := by decide +kernel
theorem dX12_trouble_1 : decode cX12_trouble 1 = .ok (.iconst 0, 1) := by decide +kernel
theorem dX12_trouble_2 : decode cX12_trouble 2 = .ok (.putfield 36, 3) := by decide +kernel
theorem dX12_trouble_5 : decode cX12_trouble 5 = .ok (.aload_n 0, 1) := by decide +kernel
theorem dX12_trouble_6 : decode cX12_trouble 6 = .ok (.getfield 39, 3) := by decide +kernel
theorem dX12_trouble_9 : decode cX12_trouble 9 = .ok (.ireturn, 1) := by decide +kernel
def vfX12_trouble : List Cond := .code yX12_trouble cX12_trouble 1 (some .int) :: ([.fieldLink RX12 36 "HookPierModel" "thrown" "I", .fieldLink RX12 39 "HookPierModel" "trouble" "I"] ++ wsX120)
theorem ifX12_trouble_X12 : ∀ w ∈ wsX120, w ∈ vfX12_trouble := fun _ h => List.mem_cons_of_mem _ (List.mem_append_right _ h)
set_option maxHeartbeats 2000000 in
set_option maxRecDepth 100000 in
theorem kfX12_trouble (l : Launch) (dC : Nat → ClassId) (dI : Nat → Nat → Nat) (a0 : Nat) (m_t : TX12_t) (g2 : Value) (g3 : Value) (g4 : Value) (g5 : Value) (g6 : Value) (g7 : Value) (g8 : Value) (g9 : Value) (g10 : Value) (g11 : Value) (g12 : Value) (g13 : Value) (g14 : Value) (g15 : Value) (g16 : Value) (g17 : Value) (g18 : Value) (g19 : Value) (g20 : Value) (g21 : Value) (g22 : Value) (g23 : Value) (g24 : Value) (g25 : Value) (g26 : Value) (g27 : Value) (g28 : Value) (sz : Nat) (out : (Int32 × TX12_t)) (h : f_X12_trouble m_t = out) : Met l yX12_trouble vfX12_trouble ({ frames := 0, cells := 0, slots := 0, locals := 0 }) (PC (dC, dI) [.ref a0] sz ([(a0, .inr (9, [.int m_t.1, .int m_t.2.1, .int m_t.2.2, g2, g3, g4, g5, g6, g7, g8, g9, g10, g11, g12, g13, g14, g15, g16, g17, g18, g19, g20, g21, g22, g23, g24, g25, g26, g27, g28]))]) ([])) (va_Qi (S := Unit) (fun (r : Int32) _ => r = out.1) (fun _ t => BC (dC, dI) (va_A ([(a0, .inr (9, [.int m_t.1, .int m_t.2.1, .int m_t.2.2, g2, g3, g4, g5, g6, g7, g8, g9, g10, g11, g12, g13, g14, g15, g16, g17, g18, g19, g20, g21, g22, g23, g24, g25, g26, g27, g28]))]) sz) ([(a0, .inr (9, [.int out.2.1, .int out.2.2.1, .int out.2.2.2, g2, g3, g4, g5, g6, g7, g8, g9, g10, g11, g12, g13, g14, g15, g16, g17, g18, g19, g20, g21, g22, g23, g24, g25, g26, g27, g28]))]) [] t) (va_A ([(a0, .inr (9, [.int m_t.1, .int m_t.2.1, .int m_t.2.2, g2, g3, g4, g5, g6, g7, g8, g9, g10, g11, g12, g13, g14, g15, g16, g17, g18, g19, g20, g21, g22, g23, g24, g25, g26, g27, g28]))]) sz)) 0 0 (va_A ([(a0, .inr (9, [.int m_t.1, .int m_t.2.1, .int m_t.2.2, g2, g3, g4, g5, g6, g7, g8, g9, g10, g11, g12, g13, g14, g15, g16, g17, g18, g19, g20, g21, g22, g23, g24, g25, g26, g27, g28]))]) sz) := by
  refine Met.ofW (cc := cX12_trouble) (maxL := 1) (ret := (some .int)) (by decide) rfl ?_
  intro p e s m args below meth c s₁ B0 hml hv
  obtain ⟨rfl, hsz, hP, hK, hD0, hN⟩ := hv
  have hx := B0.exec
  have hb := B0.bytes
  have hr := B0.returns
  have hts := atoms_spec (ws := vfX12_trouble) B0.pre
  have hown : s.vm.findClass RX12 = some m.cls := findClass_of_methodNamed B0.named
  have hlocks := B0.notSynchronized
  subst hsz
  have hD := hD0.self (sz := s.heap.size)
  generalize hAe : va_A ([(a0, .inr (9, [.int m_t.1, .int m_t.2.1, .int m_t.2.2, g2, g3, g4, g5, g6, g7, g8, g9, g10, g11, g12, g13, g14, g15, g16, g17, g18, g19, g20, g21, g22, g23, g24, g25, g26, g27, g28]))]) s.heap.size = A at hD ⊢
  have hA : ∀ q : Nat, s.heap.size ≤ q → A q := fun q h => by rw [← hAe]; exact Or.inr h
  have hS : va_S A s.heap s.heap [] := va_S.rf
  have hP : va_P (dC, dI) vwCl ([(a0, .inr (9, [.int m_t.1, .int m_t.2.1, .int m_t.2.2, g2, g3, g4, g5, g6, g7, g8, g9, g10, g11, g12, g13, g14, g15, g16, g17, g18, g19, g20, g21, g22, g23, g24, g25, g26, g27, g28]))]) s.heap := hP
  have hl := lv_entry ([.ref a0]) (n := 1) (Nat.le_of_ble_eq_true rfl)
  rw [lg_entry_eq]
  generalize (lg_sl ([.ref a0]) ++ List.replicate (1 - (lg_sl ([.ref a0])).length) Slot.unset).toArray = ls at hl ⊢
  have hl : lv_has ls 1 [(0, .ref a0)] := hl
  refine W_q (fun QQ hQQ => ?_)
  rw [f_X12_trouble] at h
  refine lv_aload_n hx hb dX12_trouble_0 rfl (lv_at hl 0 rfl) ?_
  refine lv_iconst (v := 0) hx hb dX12_trouble_1 (by decide) ?_
  refine va_put (D := (dC, dI)) (ci := 9) (v := .int 0) (ty := .int) (C := RX12) (T := TX12) (N := 30) hx hb hts ifX12_trouble_X12 tyX12 tyX12_ok nmX12 hown hK hP hD hS 0 rfl rfl 0 (by decide) (hts (.fieldLink RX12 36 "HookPierModel" "thrown" "I") (List.mem_of_getElem? (i := 1) rfl)) (fun _ h9 => h9) rfl (by decide +kernel) rfl rfl (Nat.le_of_ble_eq_true rfl) dX12_trouble_2 (fun H locs hP hD hS => ?_)
  have hP : va_P (dC, dI) vwCl ([(a0, .inr (9, [.int 0, .int m_t.2.1, .int m_t.2.2, g2, g3, g4, g5, g6, g7, g8, g9, g10, g11, g12, g13, g14, g15, g16, g17, g18, g19, g20, g21, g22, g23, g24, g25, g26, g27, g28]))]) H := hP
  have hD : va_D A ([(a0, .inr (9, [.int 0, .int m_t.2.1, .int m_t.2.2, g2, g3, g4, g5, g6, g7, g8, g9, g10, g11, g12, g13, g14, g15, g16, g17, g18, g19, g20, g21, g22, g23, g24, g25, g26, g27, g28]))]) := hD
  refine lv_aload_n hx hb dX12_trouble_5 rfl (lv_at hl 0 rfl) ?_
  refine va_get (D := (dC, dI)) (ci := 9) (v := .int m_t.2.1) (C := RX12) (T := TX12) (N := 30) hx hb hts ifX12_trouble_X12 hown hK hP 0 rfl rfl 1 (by decide) (hts (.fieldLink RX12 39 "HookPierModel" "trouble" "I") (List.mem_of_getElem? (i := 2) rfl)) (fun _ h9 => h9) rfl dX12_trouble_6 ?_
  obtain rfl := h
  have hP9 := hP.sub (ws' := ([(a0, .inr (9, [.int 0, .int m_t.2.1, .int m_t.2.2, g2, g3, g4, g5, g6, g7, g8, g9, g10, g11, g12, g13, g14, g15, g16, g17, g18, g19, g20, g21, g22, g23, g24, g25, g26, g27, g28]))])) [0] rfl
  have hD9 := hD.sub (ws' := ([(a0, .inr (9, [.int 0, .int m_t.2.1, .int m_t.2.2, g2, g3, g4, g5, g6, g7, g8, g9, g10, g11, g12, g13, g14, g15, g16, g17, g18, g19, g20, g21, g22, g23, g24, g25, g26, g27, g28]))])) [0] (by decide) rfl
  have hK9 := hK.sub (tys' := []) [] rfl
  rw [hQQ]
  exact W.iret (v := m_t.2.1) hx hb hr (fun t ht hW => ⟨⟨m_t.2.1, (), rfl, rfl, by rw [ht]; exact hP9, va_K.moved hW.alike hK9, hD9⟩, hS.F ht⟩) hS.2.2 dX12_trouble_9
