set_option maxHeartbeats 4000000 in
set_option maxRecDepth 100000 in
/-- THE LAW, from its entry -/
theorem whole_start {p : Program} {e : Env} {s : State} {m : MethodId} {below : List Frame} {meth : Method} {c : Code} (l : Launch) (hl0 : l.stackTraces = false) {b L : Nat} {xs : Nat → Int32} (hL : L ≤ 6) (C0 : lw_At p s m meth c b L xs) : W p l e room_1 s m #[Value.ref b] below meth c s.heap [] 0 0 (lw_Z below #[Value.ref b] s) (entryFrame m ([Value.ref b] : List Value).toArray 7) := by
  obtain ⟨hx, hb, hr, hml, hown, htb, hX, hbl, hlocks, hgv⟩ := id C0
  have hown : s.vm.findClass RL = some m.cls := hown
  have hA : ∀ q : Nat, s.heap.size ≤ q → (fun q : Nat => s.heap.size ≤ q) q := fun _ h => h
  have hbA : ¬ (fun q : Nat => s.heap.size ≤ q) b := Nat.not_le.mpr hbl
  have hts : ∀ w ∈ vL_start, w.before #[Value.ref b] s = true := fun w h => htb w (wL_start w h)
  have hN : NW s := nw_start htb hgv
  have hLB : LB s := fun w hw => va_Nw.of (List.all_eq_true.mp ledB_tab w hw) (htb w (ledB_in w hw))
  have hU : vx_Zq Bundle.tN "UNASSIGNED_STACK" Bundle.steD (fun q : Nat => s.heap.size ≤ q) s s.heap := vx_Zqof (htb (.laysStatic Bundle.tN "UNASSIGNED_STACK" Bundle.steD) (by decide +kernel)) (htb (.initialized Bundle.tN) (by decide +kernel)) (flat_of_before _ hgv (.isRef (.static Bundle.tN "UNASSIGNED_STACK" Bundle.steD)) (by decide +kernel)) (fun a h => Nat.not_le.mpr h)
  have hV : vx_Zq Bundle.tN "SUPPRESSED_SENTINEL" Bundle.listD (fun q : Nat => s.heap.size ≤ q) s s.heap := vx_Zqof (htb (.laysStatic Bundle.tN "SUPPRESSED_SENTINEL" Bundle.listD) (by decide +kernel)) (htb (.initialized Bundle.tN) (by decide +kernel)) (flat_of_before _ hgv (.isRef (.static Bundle.tN "SUPPRESSED_SENTINEL" Bundle.listD)) (by decide +kernel)) (fun a h => Nat.not_le.mpr h)
  obtain ⟨c0, iS0, hKn0⟩ := u_known (C := RX0) (T := TX0) (N := 2) (n := 2) htb (fun w h => (lwt_X0 w h).1) (htb (.instantiable RX0 2) (List.mem_of_getElem? (i := 385) (by decide +kernel)))
  obtain ⟨c1, iS1, hKn1⟩ := u_known (C := RX1) (T := TX1) (N := 4) (n := 4) htb (fun w h => (lwt_X1 w h).1) (htb (.instantiable RX1 4) (List.mem_of_getElem? (i := 400) (by decide +kernel)))
  obtain ⟨c2, iS2, hKn2⟩ := u_known (C := RX2) (T := TX2) (N := 5) (n := 5) htb (fun w h => (lwt_X2 w h).1) (htb (.instantiable RX2 5) (List.mem_of_getElem? (i := 341) (by decide +kernel)))
  obtain ⟨c3, iS3, hKn3⟩ := u_known (C := RX4) (T := TX4) (N := 7) (n := 7) htb (fun w h => (lwt_X4 w h).1) (htb (.instantiable RX4 7) (List.mem_of_getElem? (i := 298) (by decide +kernel)))
  obtain ⟨c4, iS4, hKn4⟩ := u_known (C := RX6) (T := TX6) (N := 18) (n := 18) htb (fun w h => (lwt_X6 w h).1) (htb (.instantiable RX6 18) (List.mem_of_getElem? (i := 139) (by decide +kernel)))
  obtain ⟨c5, iS5, hKn5⟩ := u_known (C := RX7) (T := TX7) (N := 12) (n := 12) htb (fun w h => (lwt_X7 w h).1) (htb (.instantiable RX7 12) (List.mem_of_getElem? (i := 250) (by decide +kernel)))
  obtain ⟨c6, iS6, hKn6⟩ := u_known (C := RX8) (T := TX8) (N := 3) (n := 3) htb (fun w h => (lwt_X8 w h).1) (htb (.instantiable RX8 3) (List.mem_of_getElem? (i := 368) (by decide +kernel)))
  obtain ⟨c7, iS7, hKn7⟩ := u_known (C := RX10) (T := TX10) (N := 10) (n := 10) htb (fun w h => (lwt_X10 w h).1) (htb (.instantiable RX10 10) (List.mem_of_getElem? (i := 131) (by decide +kernel)))
  obtain ⟨c8, iS8, hKn8⟩ := u_known (C := RX11) (T := TX11) (N := 24) (n := 24) htb (fun w h => (lwt_X11 w h).1) (htb (.instantiable RX11 24) (List.mem_of_getElem? (i := 1333) (by decide +kernel)))
  obtain ⟨c9, iS9, hKn9⟩ := u_known (C := RX12) (T := TX12) (N := 30) (n := 30) htb (fun w h => (lwt_X12 w h).1) (htb (.instantiable RX12 30) (List.mem_of_getElem? (i := 1220) (by decide +kernel)))
  obtain ⟨dC, dI, hKc⟩ : ∃ (dC : Nat → ClassId) (dI : Nat → Nat → Nat), ∀ (k : Nat) (q : vw_C), vwCl[k]? = some q → u_Kn s q.1 q.2.1 q.2.2 (dC k) (dI k) := by
    refine ⟨fun k => match k with | 0 => c0 | 1 => c1 | 2 => c2 | 3 => c3 | 4 => c4 | 5 => c5 | 6 => c6 | 7 => c7 | 8 => c8 | _ => c9, fun k => match k with | 0 => iS0 | 1 => iS1 | 2 => iS2 | 3 => iS3 | 4 => iS4 | 5 => iS5 | 6 => iS6 | 7 => iS7 | 8 => iS8 | _ => iS9, ?_⟩
    intro k q hq
    match k, hq with
    | 0, hq => cases hq; exact hKn0
    | 1, hq => cases hq; exact hKn1
    | 2, hq => cases hq; exact hKn2
    | 3, hq => cases hq; exact hKn3
    | 4, hq => cases hq; exact hKn4
    | 5, hq => cases hq; exact hKn5
    | 6, hq => cases hq; exact hKn6
    | 7, hq => cases hq; exact hKn7
    | 8, hq => cases hq; exact hKn8
    | 9, hq => cases hq; exact hKn9
    | k + 10, hq => simp [vwCl] at hq
  have hS : va_S (fun q : Nat => s.heap.size ≤ q) s.heap s.heap [] := va_S.rf
  have hK : va_K (dC, dI) vwCl [] s := ⟨hKc, fun k q h => by simp at h⟩
  have hP : va_P (dC, dI) vwCl [] s.heap := fun k q h => by simp at h
  have hD : va_D (fun q : Nat => s.heap.size ≤ q) [] := ⟨fun i j p q h => by simp at h, fun k q h => by simp at h⟩
  have hl := lv_entry ([.ref b]) (n := 7) (Nat.le_of_ble_eq_true rfl)
  rw [lg_entry_eq]
  generalize (lg_sl ([.ref b]) ++ List.replicate (7 - (lg_sl ([.ref b])).length) Slot.unset).toArray = ls at hl ⊢
  have hl : lv_has ls 7 [(0, .ref b)] := hl
  refine va_new (ci := 7) (fs := [.null, .null, .null, .null, .null, .null, .null, .null, .int 0, .int 0]) (C := RX10) (T := TX10) (N := 10) hx hb hts iL_start_X10 tyX10 tyX10_ok hown (hts (.classLink RL 8 RX10) (List.mem_of_getElem? (i := 0) rfl)) (hts (.instantiable RX10 10) (List.mem_of_getElem? (i := 1) rfl)) (hts (.initialized RX10) (List.mem_of_getElem? (i := 2) rfl)) hK hP hD hS hA rfl (by decide +kernel) (Nat.le_of_ble_eq_true rfl) (Nat.le_of_ble_eq_true rfl) dL_law_0 (fun q1 H hP hD hS => ?_)
  have hP : va_P (dC, dI) vwCl [(q1, .inr (7, [.null, .null, .null, .null, .null, .null, .null, .null, .int 0, .int 0]))] H := hP
  have hD : va_D (fun q : Nat => s.heap.size ≤ q) [(q1, .inr (7, [.null, .null, .null, .null, .null, .null, .null, .null, .int 0, .int 0]))] := hD
  refine W.widen (k := 1) (n := 10) (Nat.le_of_ble_eq_true rfl) (Nat.le_of_ble_eq_true rfl) ?_
  refine lv_dup hx hb dL_law_3 rfl ?_
  refine cl_v (wc := [(q1, .inr (7, [.null, .null, .null, .null, .null, .null, .null, .null, .int 0, .int 0]))]) (wr := []) (va_runI (As := []) (rest := [.ref q1]) ⟨hx, hb, hml, hown, hts⟩ (kX10_init l dC dI q1 (.null) (.null) (.null) (.null) (.null) (.null) (.null) (.null) (.int 0) (.int 0) H.size) (cwI 0 hts gL_start_0 rfl rfl rfl (hts (.initialized RX10) (List.mem_of_getElem? (i := 2) rfl)) (hts (.methodLink RL 15 yX10_init) (List.mem_of_getElem? (i := 117) rfl)) (hts (.instanceMethod yX10_init) (List.mem_of_getElem? (i := 118) rfl)) rfl (by decide +kernel) ⟨Nat.le_of_ble_eq_true rfl, Nat.le_of_ble_eq_true rfl⟩) (PS (hP.sub (ws' := [(q1, .inr (7, [.null, .null, .null, .null, .null, .null, .null, .null, .int 0, .int 0]))]) [0] rfl) (hK.sub (tys' := []) [] rfl) (hD.sub (ws' := [(q1, .inr (7, [.null, .null, .null, .null, .null, .null, .null, .null, .int 0, .int 0]))]) [0] (by decide) rfl) hN) rfl rfl hl.1 rfl (lv_room (Nat.le_of_ble_eq_true rfl)) dL_law_4 ⟨Nat.le_of_ble_eq_true rfl, Nat.le_of_ble_eq_true rfl⟩) hP hD hK hS hA [0] [] rfl rfl (by decide) (by decide) (fun u H locs hw hP hD hK hS => ?_)
  obtain ⟨q2, q3, q4, q5, q6, q7, q8, q9, q10, q11, q12, q13, q14, q15, q16, q17, q18, q19, q20, q21, q22, q23, q24, q25, q26, q27, q28, q29, q30, q31, q32, q33, q34, q35, q36, cA37⟩ := u
  have hP : va_P (dC, dI) vwCl [(q1, .inr (7, [.ref q2, .ref q3, .ref q4, .ref q5, .ref q6, .ref q7, .ref q8, .ref q9, .int 0, .int 0])), (q2, .inr (4, [.int 0, .int 0, .int 0, .int 0, .int 0, .int 0, .int 0, .int 0, .int (-1), .ref q10, .ref q11, .ref q12, .ref q13, .ref q14, .ref q15, .ref q16, .ref q17, .ref q18])), (q3, .inr (4, [.int 0, .int 0, .int 0, .int 0, .int 0, .int 0, .int 0, .int 0, .int (-1), .ref q19, .ref q20, .ref q21, .ref q22, .ref q23, .ref q24, .ref q25, .ref q26, .ref q27])), (q4, .inr (5, [.ref q28, .int 0, .int 0, .int 0, .int 0, .int 0, .int 0, .ref q29, .ref q30, .int 0, .int 0, .int (-1)])), (q5, .inr (3, [.int 0, .int 0, .int 0, .ref q31, .ref q32, .ref q33, .ref q34])), (q6, .inr (2, [.ref q35, .ref q36, .int 0, .int 0, .int 0])), (q28, .inl (cA37, 900, .inl (fun _ => 0)))] H := hP
  have hD : va_D (fun q : Nat => s.heap.size ≤ q) [(q1, .inr (7, [.ref q2, .ref q3, .ref q4, .ref q5, .ref q6, .ref q7, .ref q8, .ref q9, .int 0, .int 0])), (q2, .inr (4, [.int 0, .int 0, .int 0, .int 0, .int 0, .int 0, .int 0, .int 0, .int (-1), .ref q10, .ref q11, .ref q12, .ref q13, .ref q14, .ref q15, .ref q16, .ref q17, .ref q18])), (q3, .inr (4, [.int 0, .int 0, .int 0, .int 0, .int 0, .int 0, .int 0, .int 0, .int (-1), .ref q19, .ref q20, .ref q21, .ref q22, .ref q23, .ref q24, .ref q25, .ref q26, .ref q27])), (q4, .inr (5, [.ref q28, .int 0, .int 0, .int 0, .int 0, .int 0, .int 0, .ref q29, .ref q30, .int 0, .int 0, .int (-1)])), (q5, .inr (3, [.int 0, .int 0, .int 0, .ref q31, .ref q32, .ref q33, .ref q34])), (q6, .inr (2, [.ref q35, .ref q36, .int 0, .int 0, .int 0])), (q28, .inl (cA37, 900, .inl (fun _ => 0)))] := hD
  have hK : va_K (dC, dI) vwCl [(cA37, .byte)] s := hK
  refine W.widen (k := 140) (n := 2061) (Nat.le_of_ble_eq_true rfl) (Nat.le_of_ble_eq_true rfl) ?_
  refine lv_astore_n (lv' := [(1, .ref q1), (0, .ref b)]) hx hb dL_law_7 rfl hl (by decide) rfl (fun ls hl => ?_)
  refine va_new (ci := 9) (fs := [.int 0, .int 0, .int 0, .null, .null, .null, .int 0, .int 0, .int 0, .int 0, .int 0, .int 0, .int 0, .int 0, .long 0, .null, .null, .null, .null, .int 0, .int 0, .null, .null, .int 0, .int 0, .int 0, .int 0, .int 0, .int 0, .int 0]) (C := RX12) (T := TX12) (N := 30) hx hb hts iL_start_X12 tyX12 tyX12_ok hown (hts (.classLink RL 16 RX12) (List.mem_of_getElem? (i := 119) rfl)) (hts (.instantiable RX12 30) (List.mem_of_getElem? (i := 120) rfl)) (hts (.initialized RX12) (List.mem_of_getElem? (i := 121) rfl)) hK hP hD hS hA rfl (by decide +kernel) (Nat.le_of_ble_eq_true rfl) (Nat.le_of_ble_eq_true rfl) dL_law_8 (fun q38 H hP hD hS => ?_)
  have hP : va_P (dC, dI) vwCl [(q1, .inr (7, [.ref q2, .ref q3, .ref q4, .ref q5, .ref q6, .ref q7, .ref q8, .ref q9, .int 0, .int 0])), (q2, .inr (4, [.int 0, .int 0, .int 0, .int 0, .int 0, .int 0, .int 0, .int 0, .int (-1), .ref q10, .ref q11, .ref q12, .ref q13, .ref q14, .ref q15, .ref q16, .ref q17, .ref q18])), (q3, .inr (4, [.int 0, .int 0, .int 0, .int 0, .int 0, .int 0, .int 0, .int 0, .int (-1), .ref q19, .ref q20, .ref q21, .ref q22, .ref q23, .ref q24, .ref q25, .ref q26, .ref q27])), (q4, .inr (5, [.ref q28, .int 0, .int 0, .int 0, .int 0, .int 0, .int 0, .ref q29, .ref q30, .int 0, .int 0, .int (-1)])), (q5, .inr (3, [.int 0, .int 0, .int 0, .ref q31, .ref q32, .ref q33, .ref q34])), (q6, .inr (2, [.ref q35, .ref q36, .int 0, .int 0, .int 0])), (q28, .inl (cA37, 900, .inl (fun _ => 0))), (q38, .inr (9, [.int 0, .int 0, .int 0, .null, .null, .null, .int 0, .int 0, .int 0, .int 0, .int 0, .int 0, .int 0, .int 0, .long 0, .null, .null, .null, .null, .int 0, .int 0, .null, .null, .int 0, .int 0, .int 0, .int 0, .int 0, .int 0, .int 0]))] H := hP
  have hD : va_D (fun q : Nat => s.heap.size ≤ q) [(q1, .inr (7, [.ref q2, .ref q3, .ref q4, .ref q5, .ref q6, .ref q7, .ref q8, .ref q9, .int 0, .int 0])), (q2, .inr (4, [.int 0, .int 0, .int 0, .int 0, .int 0, .int 0, .int 0, .int 0, .int (-1), .ref q10, .ref q11, .ref q12, .ref q13, .ref q14, .ref q15, .ref q16, .ref q17, .ref q18])), (q3, .inr (4, [.int 0, .int 0, .int 0, .int 0, .int 0, .int 0, .int 0, .int 0, .int (-1), .ref q19, .ref q20, .ref q21, .ref q22, .ref q23, .ref q24, .ref q25, .ref q26, .ref q27])), (q4, .inr (5, [.ref q28, .int 0, .int 0, .int 0, .int 0, .int 0, .int 0, .ref q29, .ref q30, .int 0, .int 0, .int (-1)])), (q5, .inr (3, [.int 0, .int 0, .int 0, .ref q31, .ref q32, .ref q33, .ref q34])), (q6, .inr (2, [.ref q35, .ref q36, .int 0, .int 0, .int 0])), (q28, .inl (cA37, 900, .inl (fun _ => 0))), (q38, .inr (9, [.int 0, .int 0, .int 0, .null, .null, .null, .int 0, .int 0, .int 0, .int 0, .int 0, .int 0, .int 0, .int 0, .long 0, .null, .null, .null, .null, .int 0, .int 0, .null, .null, .int 0, .int 0, .int 0, .int 0, .int 0, .int 0, .int 0]))] := hD
  refine W.widen (k := 141) (n := 2091) (Nat.le_of_ble_eq_true rfl) (Nat.le_of_ble_eq_true rfl) ?_
  refine lv_dup hx hb dL_law_11 rfl ?_
  refine cl_v (wc := [(q38, .inr (9, [.int 0, .int 0, .int 0, .null, .null, .null, .int 0, .int 0, .int 0, .int 0, .int 0, .int 0, .int 0, .int 0, .long 0, .null, .null, .null, .null, .int 0, .int 0, .null, .null, .int 0, .int 0, .int 0, .int 0, .int 0, .int 0, .int 0]))]) (wr := [(q1, .inr (7, [.ref q2, .ref q3, .ref q4, .ref q5, .ref q6, .ref q7, .ref q8, .ref q9, .int 0, .int 0])), (q2, .inr (4, [.int 0, .int 0, .int 0, .int 0, .int 0, .int 0, .int 0, .int 0, .int (-1), .ref q10, .ref q11, .ref q12, .ref q13, .ref q14, .ref q15, .ref q16, .ref q17, .ref q18])), (q3, .inr (4, [.int 0, .int 0, .int 0, .int 0, .int 0, .int 0, .int 0, .int 0, .int (-1), .ref q19, .ref q20, .ref q21, .ref q22, .ref q23, .ref q24, .ref q25, .ref q26, .ref q27])), (q4, .inr (5, [.ref q28, .int 0, .int 0, .int 0, .int 0, .int 0, .int 0, .ref q29, .ref q30, .int 0, .int 0, .int (-1)])), (q5, .inr (3, [.int 0, .int 0, .int 0, .ref q31, .ref q32, .ref q33, .ref q34])), (q6, .inr (2, [.ref q35, .ref q36, .int 0, .int 0, .int 0])), (q28, .inl (cA37, 900, .inl (fun _ => 0)))]) (va_runI (As := []) (rest := [.ref q38]) ⟨hx, hb, hml, hown, hts⟩ (kX12_init l dC dI q38 (.int 0) (.int 0) (.int 0) (.null) (.null) (.null) (.int 0) (.int 0) (.int 0) (.int 0) (.int 0) (.int 0) (.int 0) (.int 0) (.long 0) (.null) (.null) (.null) (.null) (.int 0) (.int 0) (.null) (.null) (.int 0) (.int 0) (.int 0) (.int 0) (.int 0) (.int 0) (.int 0) H.size) (cwI 0 hts gL_start_1 rfl rfl rfl (hts (.initialized RX12) (List.mem_of_getElem? (i := 121) rfl)) (hts (.methodLink RL 18 yX12_init) (List.mem_of_getElem? (i := 132) rfl)) (hts (.instanceMethod yX12_init) (List.mem_of_getElem? (i := 133) rfl)) rfl (by decide +kernel) ⟨Nat.le_of_ble_eq_true rfl, Nat.le_of_ble_eq_true rfl⟩) (PS (hP.sub (ws' := [(q38, .inr (9, [.int 0, .int 0, .int 0, .null, .null, .null, .int 0, .int 0, .int 0, .int 0, .int 0, .int 0, .int 0, .int 0, .long 0, .null, .null, .null, .null, .int 0, .int 0, .null, .null, .int 0, .int 0, .int 0, .int 0, .int 0, .int 0, .int 0]))]) [7] rfl) (hK.sub (tys' := []) [] rfl) (hD.sub (ws' := [(q38, .inr (9, [.int 0, .int 0, .int 0, .null, .null, .null, .int 0, .int 0, .int 0, .int 0, .int 0, .int 0, .int 0, .int 0, .long 0, .null, .null, .null, .null, .int 0, .int 0, .null, .null, .int 0, .int 0, .int 0, .int 0, .int 0, .int 0, .int 0]))]) [7] (by decide) rfl) hN) rfl rfl hl.1 rfl (lv_room (Nat.le_of_ble_eq_true rfl)) dL_law_12 ⟨Nat.le_of_ble_eq_true rfl, Nat.le_of_ble_eq_true rfl⟩) hP hD hK hS hA [7] [0, 1, 2, 3, 4, 5, 6] rfl rfl (by decide) (by decide) (fun u H locs hw hP hD hK hS => ?_)
  obtain ⟨q39, q40, q41, q42, q43, q44, q45, cA46⟩ := u
  have hP : va_P (dC, dI) vwCl [(q1, .inr (7, [.ref q2, .ref q3, .ref q4, .ref q5, .ref q6, .ref q7, .ref q8, .ref q9, .int 0, .int 0])), (q2, .inr (4, [.int 0, .int 0, .int 0, .int 0, .int 0, .int 0, .int 0, .int 0, .int (-1), .ref q10, .ref q11, .ref q12, .ref q13, .ref q14, .ref q15, .ref q16, .ref q17, .ref q18])), (q3, .inr (4, [.int 0, .int 0, .int 0, .int 0, .int 0, .int 0, .int 0, .int 0, .int (-1), .ref q19, .ref q20, .ref q21, .ref q22, .ref q23, .ref q24, .ref q25, .ref q26, .ref q27])), (q4, .inr (5, [.ref q28, .int 0, .int 0, .int 0, .int 0, .int 0, .int 0, .ref q29, .ref q30, .int 0, .int 0, .int (-1)])), (q5, .inr (3, [.int 0, .int 0, .int 0, .ref q31, .ref q32, .ref q33, .ref q34])), (q6, .inr (2, [.ref q35, .ref q36, .int 0, .int 0, .int 0])), (q28, .inl (cA37, 900, .inl (fun _ => 0))), (q38, .inr (9, [.int 0, .int 0, .int (-1), .null, .null, .ref q39, .int 0, .int 0, .int 0, .int 0, .int 0, .int 0, .int 0, .int 0, .long 0, .ref q40, .ref q41, .ref q42, .ref q43, .int 0, .int 0, .ref q44, .ref q45, .int 0, .int 0, .int 0, .int 0, .int 0, .int 0, .int 0])), (q39, .inl (cA46, 900, .inl (fun _ => 0)))] H := hP
  have hD : va_D (fun q : Nat => s.heap.size ≤ q) [(q1, .inr (7, [.ref q2, .ref q3, .ref q4, .ref q5, .ref q6, .ref q7, .ref q8, .ref q9, .int 0, .int 0])), (q2, .inr (4, [.int 0, .int 0, .int 0, .int 0, .int 0, .int 0, .int 0, .int 0, .int (-1), .ref q10, .ref q11, .ref q12, .ref q13, .ref q14, .ref q15, .ref q16, .ref q17, .ref q18])), (q3, .inr (4, [.int 0, .int 0, .int 0, .int 0, .int 0, .int 0, .int 0, .int 0, .int (-1), .ref q19, .ref q20, .ref q21, .ref q22, .ref q23, .ref q24, .ref q25, .ref q26, .ref q27])), (q4, .inr (5, [.ref q28, .int 0, .int 0, .int 0, .int 0, .int 0, .int 0, .ref q29, .ref q30, .int 0, .int 0, .int (-1)])), (q5, .inr (3, [.int 0, .int 0, .int 0, .ref q31, .ref q32, .ref q33, .ref q34])), (q6, .inr (2, [.ref q35, .ref q36, .int 0, .int 0, .int 0])), (q28, .inl (cA37, 900, .inl (fun _ => 0))), (q38, .inr (9, [.int 0, .int 0, .int (-1), .null, .null, .ref q39, .int 0, .int 0, .int 0, .int 0, .int 0, .int 0, .int 0, .int 0, .long 0, .ref q40, .ref q41, .ref q42, .ref q43, .int 0, .int 0, .ref q44, .ref q45, .int 0, .int 0, .int 0, .int 0, .int 0, .int 0, .int 0])), (q39, .inl (cA46, 900, .inl (fun _ => 0)))] := hD
  have hK : va_K (dC, dI) vwCl [(cA37, .byte), (cA46, .byte)] s := hK
  refine W.widen (k := 148) (n := 3547) (Nat.le_of_ble_eq_true rfl) (Nat.le_of_ble_eq_true rfl) ?_
  refine lv_astore_n (lv' := [(2, .ref q38), (1, .ref q1), (0, .ref b)]) hx hb dL_law_15 rfl hl (by decide) rfl (fun ls hl => ?_)
  refine lv_iconst (v := 1) hx hb dL_law_16 (by decide) ?_
  refine va_newa (atype := .long) hx hb (hts (.arrayClass .long) (List.mem_of_getElem? (i := 48) rfl)) (ty := .long) rfl hK hP hD hS hA (n := 1) (N' := 1) (a0 := (1, .inr (.inl (fun _ => 0)))) (fun _ => rfl) (by decide) (by decide +kernel) (by decide +kernel) (Nat.le_of_ble_eq_true rfl) (Nat.le_of_ble_eq_true rfl) dL_law_17 (fun q47 cA48 H hK hP hD hS => ?_)
  have hP : va_P (dC, dI) vwCl [(q1, .inr (7, [.ref q2, .ref q3, .ref q4, .ref q5, .ref q6, .ref q7, .ref q8, .ref q9, .int 0, .int 0])), (q2, .inr (4, [.int 0, .int 0, .int 0, .int 0, .int 0, .int 0, .int 0, .int 0, .int (-1), .ref q10, .ref q11, .ref q12, .ref q13, .ref q14, .ref q15, .ref q16, .ref q17, .ref q18])), (q3, .inr (4, [.int 0, .int 0, .int 0, .int 0, .int 0, .int 0, .int 0, .int 0, .int (-1), .ref q19, .ref q20, .ref q21, .ref q22, .ref q23, .ref q24, .ref q25, .ref q26, .ref q27])), (q4, .inr (5, [.ref q28, .int 0, .int 0, .int 0, .int 0, .int 0, .int 0, .ref q29, .ref q30, .int 0, .int 0, .int (-1)])), (q5, .inr (3, [.int 0, .int 0, .int 0, .ref q31, .ref q32, .ref q33, .ref q34])), (q6, .inr (2, [.ref q35, .ref q36, .int 0, .int 0, .int 0])), (q28, .inl (cA37, 900, .inl (fun _ => 0))), (q38, .inr (9, [.int 0, .int 0, .int (-1), .null, .null, .ref q39, .int 0, .int 0, .int 0, .int 0, .int 0, .int 0, .int 0, .int 0, .long 0, .ref q40, .ref q41, .ref q42, .ref q43, .int 0, .int 0, .ref q44, .ref q45, .int 0, .int 0, .int 0, .int 0, .int 0, .int 0, .int 0])), (q39, .inl (cA46, 900, .inl (fun _ => 0))), (q47, .inl (cA48, 1, .inr (.inl (fun _ => 0))))] H := hP
  have hD : va_D (fun q : Nat => s.heap.size ≤ q) [(q1, .inr (7, [.ref q2, .ref q3, .ref q4, .ref q5, .ref q6, .ref q7, .ref q8, .ref q9, .int 0, .int 0])), (q2, .inr (4, [.int 0, .int 0, .int 0, .int 0, .int 0, .int 0, .int 0, .int 0, .int (-1), .ref q10, .ref q11, .ref q12, .ref q13, .ref q14, .ref q15, .ref q16, .ref q17, .ref q18])), (q3, .inr (4, [.int 0, .int 0, .int 0, .int 0, .int 0, .int 0, .int 0, .int 0, .int (-1), .ref q19, .ref q20, .ref q21, .ref q22, .ref q23, .ref q24, .ref q25, .ref q26, .ref q27])), (q4, .inr (5, [.ref q28, .int 0, .int 0, .int 0, .int 0, .int 0, .int 0, .ref q29, .ref q30, .int 0, .int 0, .int (-1)])), (q5, .inr (3, [.int 0, .int 0, .int 0, .ref q31, .ref q32, .ref q33, .ref q34])), (q6, .inr (2, [.ref q35, .ref q36, .int 0, .int 0, .int 0])), (q28, .inl (cA37, 900, .inl (fun _ => 0))), (q38, .inr (9, [.int 0, .int 0, .int (-1), .null, .null, .ref q39, .int 0, .int 0, .int 0, .int 0, .int 0, .int 0, .int 0, .int 0, .long 0, .ref q40, .ref q41, .ref q42, .ref q43, .int 0, .int 0, .ref q44, .ref q45, .int 0, .int 0, .int 0, .int 0, .int 0, .int 0, .int 0])), (q39, .inl (cA46, 900, .inl (fun _ => 0))), (q47, .inl (cA48, 1, .inr (.inl (fun _ => 0))))] := hD
  have hK : va_K (dC, dI) vwCl [(cA37, .byte), (cA46, .byte), (cA48, .long)] s := hK
  refine W.widen (k := 149) (n := 3548) (Nat.le_of_ble_eq_true rfl) (Nat.le_of_ble_eq_true rfl) ?_
  refine lv_astore_n (lv' := [(3, .ref q47), (2, .ref q38), (1, .ref q1), (0, .ref b)]) hx hb dL_law_19 rfl hl (by decide) rfl (fun ls hl => ?_)
  refine lv_iconst (v := 0) hx hb dL_law_20 (by decide) ?_
  refine lv_istore (lv' := [(4, .int 0), (3, .ref q47), (2, .ref q38), (1, .ref q1), (0, .ref b)]) hx hb dL_law_21 hl (by decide) rfl (fun ls hl => ?_)
  have hP := hP.sub (ws' := [(q1, .inr (7, [.ref q2, .ref q3, .ref q4, .ref q5, .ref q6, .ref q7, .ref q8, .ref q9, .int 0, .int 0])), (q2, .inr (4, [.int 0, .int 0, .int 0, .int 0, .int 0, .int 0, .int 0, .int 0, .int (-1), .ref q10, .ref q11, .ref q12, .ref q13, .ref q14, .ref q15, .ref q16, .ref q17, .ref q18])), (q3, .inr (4, [.int 0, .int 0, .int 0, .int 0, .int 0, .int 0, .int 0, .int 0, .int (-1), .ref q19, .ref q20, .ref q21, .ref q22, .ref q23, .ref q24, .ref q25, .ref q26, .ref q27])), (q4, .inr (5, [.ref q28, .int 0, .int 0, .int 0, .int 0, .int 0, .int 0, .ref q29, .ref q30, .int 0, .int 0, .int (-1)])), (q28, .inl (cA37, 900, .inl (fun _ => 0))), (q5, .inr (3, [.int 0, .int 0, .int 0, .ref q31, .ref q32, .ref q33, .ref q34])), (q6, .inr (2, [.ref q35, .ref q36, .int 0, .int 0, .int 0])), (q38, .inr (9, [.int 0, .int 0, .int (-1), .null, .null, .ref q39, .int 0, .int 0, .int 0, .int 0, .int 0, .int 0, .int 0, .int 0, .long 0, .ref q40, .ref q41, .ref q42, .ref q43, .int 0, .int 0, .ref q44, .ref q45, .int 0, .int 0, .int 0, .int 0, .int 0, .int 0, .int 0])), (q39, .inl (cA46, 900, .inl (fun _ => 0)))]) [0, 1, 2, 3, 6, 4, 5, 7, 8] rfl
  have hD := hD.sub (ws' := [(q1, .inr (7, [.ref q2, .ref q3, .ref q4, .ref q5, .ref q6, .ref q7, .ref q8, .ref q9, .int 0, .int 0])), (q2, .inr (4, [.int 0, .int 0, .int 0, .int 0, .int 0, .int 0, .int 0, .int 0, .int (-1), .ref q10, .ref q11, .ref q12, .ref q13, .ref q14, .ref q15, .ref q16, .ref q17, .ref q18])), (q3, .inr (4, [.int 0, .int 0, .int 0, .int 0, .int 0, .int 0, .int 0, .int 0, .int (-1), .ref q19, .ref q20, .ref q21, .ref q22, .ref q23, .ref q24, .ref q25, .ref q26, .ref q27])), (q4, .inr (5, [.ref q28, .int 0, .int 0, .int 0, .int 0, .int 0, .int 0, .ref q29, .ref q30, .int 0, .int 0, .int (-1)])), (q28, .inl (cA37, 900, .inl (fun _ => 0))), (q5, .inr (3, [.int 0, .int 0, .int 0, .ref q31, .ref q32, .ref q33, .ref q34])), (q6, .inr (2, [.ref q35, .ref q36, .int 0, .int 0, .int 0])), (q38, .inr (9, [.int 0, .int 0, .int (-1), .null, .null, .ref q39, .int 0, .int 0, .int 0, .int 0, .int 0, .int 0, .int 0, .int 0, .long 0, .ref q40, .ref q41, .ref q42, .ref q43, .int 0, .int 0, .ref q44, .ref q45, .int 0, .int 0, .int 0, .int 0, .int 0, .int 0, .int 0])), (q39, .inl (cA46, 900, .inl (fun _ => 0)))]) [0, 1, 2, 3, 6, 4, 5, 7, 8] (by decide) rfl
  have hK := hK.sub (tys' := [(cA37, .byte), (cA46, .byte)]) [0, 1] rfl
  refine lv_iload hx hb dL_law_23 (lv_at hl 0 rfl) ?_
  refine lv_aload_n hx hb dL_law_25 rfl (lv_at hl 4 rfl) ?_
  refine va_slen hx hb hX hbl hbA hS dL_law_26 ?_
  refine lv_bipush (v := 6) hx hb dL_law_27 (by decide) ?_
  refine lv_isub hx hb dL_law_29 ?_
  refine lv_topi (fun z1 e1 => ?_)
  rcases (show L = 0 ∨ L = 1 ∨ L = 2 ∨ L = 3 ∨ L = 4 ∨ L = 5 ∨ L = 6 by omega) with rfl | rfl | rfl | rfl | rfl | rfl | rfl
  · obtain rfl : z1 = (-6) := e1.trans (by decide)
    refine lv_icmp_gt (tgt := 1991) hx hb dL_law_30 (by decide) (fun _ => ?_) (fun c1 => absurd c1 (by decide))
    refine lv_iconst (v := 1) hx hb dL_law_1991 (by decide) ?_
    refine va_forget (fun q hq => hS.2.2 q hq) ?_
    refine W.widen (k := 600002) (n := 7302232) (Nat.le_of_ble_eq_true rfl) (Nat.le_of_ble_eq_true rfl) ?_
    exact lw_ret hx hb hr hlocks dL_law_1992
  · obtain rfl : z1 = (-5) := e1.trans (by decide)
    refine lv_icmp_gt (tgt := 1991) hx hb dL_law_30 (by decide) (fun _ => ?_) (fun c1 => absurd c1 (by decide))
    refine lv_iconst (v := 1) hx hb dL_law_1991 (by decide) ?_
    refine va_forget (fun q hq => hS.2.2 q hq) ?_
    refine W.widen (k := 600002) (n := 7302232) (Nat.le_of_ble_eq_true rfl) (Nat.le_of_ble_eq_true rfl) ?_
    exact lw_ret hx hb hr hlocks dL_law_1992
  · obtain rfl : z1 = (-4) := e1.trans (by decide)
    refine lv_icmp_gt (tgt := 1991) hx hb dL_law_30 (by decide) (fun _ => ?_) (fun c1 => absurd c1 (by decide))
    refine lv_iconst (v := 1) hx hb dL_law_1991 (by decide) ?_
    refine va_forget (fun q hq => hS.2.2 q hq) ?_
    refine W.widen (k := 600002) (n := 7302232) (Nat.le_of_ble_eq_true rfl) (Nat.le_of_ble_eq_true rfl) ?_
    exact lw_ret hx hb hr hlocks dL_law_1992
  · obtain rfl : z1 = (-3) := e1.trans (by decide)
    refine lv_icmp_gt (tgt := 1991) hx hb dL_law_30 (by decide) (fun _ => ?_) (fun c1 => absurd c1 (by decide))
    refine lv_iconst (v := 1) hx hb dL_law_1991 (by decide) ?_
    refine va_forget (fun q hq => hS.2.2 q hq) ?_
    refine W.widen (k := 600002) (n := 7302232) (Nat.le_of_ble_eq_true rfl) (Nat.le_of_ble_eq_true rfl) ?_
    exact lw_ret hx hb hr hlocks dL_law_1992
  · obtain rfl : z1 = (-2) := e1.trans (by decide)
    refine lv_icmp_gt (tgt := 1991) hx hb dL_law_30 (by decide) (fun _ => ?_) (fun c1 => absurd c1 (by decide))
    refine lv_iconst (v := 1) hx hb dL_law_1991 (by decide) ?_
    refine va_forget (fun q hq => hS.2.2 q hq) ?_
    refine W.widen (k := 600002) (n := 7302232) (Nat.le_of_ble_eq_true rfl) (Nat.le_of_ble_eq_true rfl) ?_
    exact lw_ret hx hb hr hlocks dL_law_1992
  · obtain rfl : z1 = (-1) := e1.trans (by decide)
    refine lv_icmp_gt (tgt := 1991) hx hb dL_law_30 (by decide) (fun _ => ?_) (fun c1 => absurd c1 (by decide))
    refine lv_iconst (v := 1) hx hb dL_law_1991 (by decide) ?_
    refine va_forget (fun q hq => hS.2.2 q hq) ?_
    refine W.widen (k := 600002) (n := 7302232) (Nat.le_of_ble_eq_true rfl) (Nat.le_of_ble_eq_true rfl) ?_
    exact lw_ret hx hb hr hlocks dL_law_1992
  · obtain rfl : z1 = 0 := e1.trans (by decide)
    refine lv_icmp_gt (tgt := 1991) hx hb dL_law_30 (by decide) (fun c1 => absurd c1 (by decide)) (fun _ => ?_)
    refine lv_aload_n hx hb dL_law_33 rfl (lv_at hl 4 rfl) ?_
    refine lv_iload hx hb dL_law_34 (lv_at hl 0 rfl) ?_
    refine va_sld hx hb hX hbl hbA hS (by unfold vp_in; decide) dL_law_36 ?_
    refine lv_bipush (v := 63) hx hb dL_law_37 (by decide) ?_
    refine lv_iand hx hb dL_law_39 ?_
    refine lv_topi (fun z2 e2 => ?_)
    obtain ⟨j, hj, ej⟩ := pk_andE (xs (0 : Int32).toNatClampNeg) (m := 63) 6 (by decide)
    have hj : j < 64 := hj
    rcases (show j = 0 ∨ j = 1 ∨ j = 2 ∨ j = 3 ∨ j = 4 ∨ j = 5 ∨ j = 6 ∨ j = 7 ∨ j = 8 ∨ j = 9 ∨ j = 10 ∨ j = 11 ∨ j = 12 ∨ j = 13 ∨ j = 14 ∨ j = 15 ∨ j = 16 ∨ j = 17 ∨ j = 18 ∨ j = 19 ∨ j = 20 ∨ j = 21 ∨ j = 22 ∨ j = 23 ∨ j = 24 ∨ j = 25 ∨ j = 26 ∨ j = 27 ∨ j = 28 ∨ j = 29 ∨ j = 30 ∨ j = 31 ∨ j = 32 ∨ j = 33 ∨ j = 34 ∨ j = 35 ∨ j = 36 ∨ j = 37 ∨ j = 38 ∨ j = 39 ∨ j = 40 ∨ j = 41 ∨ j = 42 ∨ j = 43 ∨ j = 44 ∨ j = 45 ∨ j = 46 ∨ j = 47 ∨ j = 48 ∨ j = 49 ∨ 50 ≤ j by omega) with rfl | rfl | rfl | rfl | rfl | rfl | rfl | rfl | rfl | rfl | rfl | rfl | rfl | rfl | rfl | rfl | rfl | rfl | rfl | rfl | rfl | rfl | rfl | rfl | rfl | rfl | rfl | rfl | rfl | rfl | rfl | rfl | rfl | rfl | rfl | rfl | rfl | rfl | rfl | rfl | rfl | rfl | rfl | rfl | rfl | rfl | rfl | rfl | rfl | rfl | hge
    · obtain rfl : z2 = 0 := (e2.trans ej).trans (by decide)
      refine lv_tableIn (tgt := 256) hx hb dL_law_40 (by decide) (by decide) rfl (by decide) ?_
      exact law_0 l C0 hN dC dI q1 q2 q3 q4 q5 q6 q28 q7 q8 q9 q10 q11 q12 q13 q14 q15 q16 q17 q18 q19 q20 q21 q22 q23 q24 q25 q26 q27 q29 q30 q31 q32 q33 q34 q35 q36 q38 q39 q40 q41 q42 q43 q44 q45 q47 cA37 cA46 H locs hK hP hD hS ls (lv_sub hl [0, 1, 2, 3, 4] rfl)
    · obtain rfl : z2 = 1 := (e2.trans ej).trans (by decide)
      refine lv_tableIn (tgt := 329) hx hb dL_law_40 (by decide) (by decide) rfl (by decide) ?_
      exact law_1 l C0 hN dC dI q1 q2 q3 q4 q5 q6 q28 q7 q8 q9 q10 q11 q12 q13 q14 q15 q16 q17 q18 q19 q20 q21 q22 q23 q24 q25 q26 q27 q29 q30 q31 q32 q33 q34 q35 q36 q38 q39 q40 q41 q42 q43 q44 q45 q47 cA37 cA46 H locs hK hP hD hS ls (lv_sub hl [0, 1, 2, 3, 4] rfl)
    · obtain rfl : z2 = 2 := (e2.trans ej).trans (by decide)
      refine lv_tableIn (tgt := 354) hx hb dL_law_40 (by decide) (by decide) rfl (by decide) ?_
      exact law_2 l C0 hN dC dI q1 q2 q3 q4 q5 q6 q28 q7 q8 q9 q10 q11 q12 q13 q14 q15 q16 q17 q18 q19 q20 q21 q22 q23 q24 q25 q26 q27 q29 q30 q31 q32 q33 q34 q35 q36 q38 q39 q40 q41 q42 q43 q44 q45 q47 cA37 cA46 H locs hK hP hD hS ls (lv_sub hl [0, 1, 2, 3, 4] rfl)
    · obtain rfl : z2 = 3 := (e2.trans ej).trans (by decide)
      refine lv_tableIn (tgt := 367) hx hb dL_law_40 (by decide) (by decide) rfl (by decide) ?_
      exact law_3 l C0 hN dC dI q1 q2 q3 q4 q5 q6 q28 q7 q8 q9 q10 q11 q12 q13 q14 q15 q16 q17 q18 q19 q20 q21 q22 q23 q24 q25 q26 q27 q29 q30 q31 q32 q33 q34 q35 q36 q38 q39 q40 q41 q42 q43 q44 q45 q47 cA37 cA46 H locs hK hP hD hS ls (lv_sub hl [0, 1, 2, 3, 4] rfl)
    · obtain rfl : z2 = 4 := (e2.trans ej).trans (by decide)
      refine lv_tableIn (tgt := 380) hx hb dL_law_40 (by decide) (by decide) rfl (by decide) ?_
      exact law_4 l C0 hN dC dI q1 q2 q3 q4 q5 q6 q28 q7 q8 q9 q10 q11 q12 q13 q14 q15 q16 q17 q18 q19 q20 q21 q22 q23 q24 q25 q26 q27 q29 q30 q31 q32 q33 q34 q35 q36 q38 q39 q40 q41 q42 q43 q44 q45 q47 cA37 cA46 H locs hK hP hD hS ls (lv_sub hl [0, 1, 2, 3, 4] rfl)
    · obtain rfl : z2 = 5 := (e2.trans ej).trans (by decide)
      refine lv_tableIn (tgt := 417) hx hb dL_law_40 (by decide) (by decide) rfl (by decide) ?_
      exact law_5 l C0 hN dC dI q1 q2 q3 q4 q5 q6 q28 q7 q8 q9 q10 q11 q12 q13 q14 q15 q16 q17 q18 q19 q20 q21 q22 q23 q24 q25 q26 q27 q29 q30 q31 q32 q33 q34 q35 q36 q38 q39 q40 q41 q42 q43 q44 q45 q47 cA37 cA46 H locs hK hP hD hS ls (lv_sub hl [0, 1, 2, 3, 4] rfl)
    · obtain rfl : z2 = 6 := (e2.trans ej).trans (by decide)
      refine lv_tableIn (tgt := 454) hx hb dL_law_40 (by decide) (by decide) rfl (by decide) ?_
      exact law_6 l C0 hN dC dI q1 q2 q3 q4 q5 q6 q28 q7 q8 q9 q10 q11 q12 q13 q14 q15 q16 q17 q18 q19 q20 q21 q22 q23 q24 q25 q26 q27 q29 q30 q31 q32 q33 q34 q35 q36 q38 q39 q40 q41 q42 q43 q44 q45 q47 cA37 cA46 H locs hK hP hD hS ls (lv_sub hl [0, 1, 2, 3, 4] rfl)
    · obtain rfl : z2 = 7 := (e2.trans ej).trans (by decide)
      refine lv_tableIn (tgt := 479) hx hb dL_law_40 (by decide) (by decide) rfl (by decide) ?_
      exact law_7 l C0 hN dC dI q1 q2 q3 q4 q5 q6 q28 q7 q8 q9 q10 q11 q12 q13 q14 q15 q16 q17 q18 q19 q20 q21 q22 q23 q24 q25 q26 q27 q29 q30 q31 q32 q33 q34 q35 q36 q38 q39 q40 q41 q42 q43 q44 q45 q47 cA37 cA46 H locs hK hP hD hS ls (lv_sub hl [0, 1, 2, 3, 4] rfl)
    · obtain rfl : z2 = 8 := (e2.trans ej).trans (by decide)
      refine lv_tableIn (tgt := 540) hx hb dL_law_40 (by decide) (by decide) rfl (by decide) ?_
      exact law_8 l C0 hN dC dI q1 q2 q3 q4 q5 q6 q28 q7 q8 q9 q10 q11 q12 q13 q14 q15 q16 q17 q18 q19 q20 q21 q22 q23 q24 q25 q26 q27 q29 q30 q31 q32 q33 q34 q35 q36 q38 q39 q40 q41 q42 q43 q44 q45 q47 cA37 cA46 H locs hK hP hD hS ls (lv_sub hl [0, 1, 2, 3, 4] rfl)
    · obtain rfl : z2 = 9 := (e2.trans ej).trans (by decide)
      refine lv_tableIn (tgt := 630) hx hb dL_law_40 (by decide) (by decide) rfl (by decide) ?_
      exact law_9 l C0 hN dC dI q1 q2 q3 q4 q5 q6 q28 q7 q8 q9 q10 q11 q12 q13 q14 q15 q16 q17 q18 q19 q20 q21 q22 q23 q24 q25 q26 q27 q29 q30 q31 q32 q33 q34 q35 q36 q38 q39 q40 q41 q42 q43 q44 q45 q47 cA37 cA46 H locs hK hP hD hS ls (lv_sub hl [0, 1, 2, 3, 4] rfl)
    · obtain rfl : z2 = 10 := (e2.trans ej).trans (by decide)
      refine lv_tableIn (tgt := 708) hx hb dL_law_40 (by decide) (by decide) rfl (by decide) ?_
      exact law_10 l C0 hN dC dI q1 q2 q3 q4 q5 q6 q28 q7 q8 q9 q10 q11 q12 q13 q14 q15 q16 q17 q18 q19 q20 q21 q22 q23 q24 q25 q26 q27 q29 q30 q31 q32 q33 q34 q35 q36 q38 q39 q40 q41 q42 q43 q44 q45 q47 cA37 cA46 H locs hK hP hD hS ls (lv_sub hl [0, 1, 2, 3, 4] rfl)
    · obtain rfl : z2 = 11 := (e2.trans ej).trans (by decide)
      refine lv_tableIn (tgt := 786) hx hb dL_law_40 (by decide) (by decide) rfl (by decide) ?_
      exact law_11 l C0 hN dC dI q1 q2 q3 q4 q5 q6 q28 q7 q8 q9 q10 q11 q12 q13 q14 q15 q16 q17 q18 q19 q20 q21 q22 q23 q24 q25 q26 q27 q29 q30 q31 q32 q33 q34 q35 q36 q38 q39 q40 q41 q42 q43 q44 q45 q47 cA37 cA46 H locs hK hP hD hS ls (lv_sub hl [0, 1, 2, 3, 4] rfl)
    · obtain rfl : z2 = 12 := (e2.trans ej).trans (by decide)
      refine lv_tableIn (tgt := 835) hx hb dL_law_40 (by decide) (by decide) rfl (by decide) ?_
      exact law_12 l C0 hN dC dI q1 q2 q3 q4 q5 q6 q28 q7 q8 q9 q10 q11 q12 q13 q14 q15 q16 q17 q18 q19 q20 q21 q22 q23 q24 q25 q26 q27 q29 q30 q31 q32 q33 q34 q35 q36 q38 q39 q40 q41 q42 q43 q44 q45 q47 cA37 cA46 H locs hK hP hD hS ls (lv_sub hl [0, 1, 2, 3, 4] rfl)
    · obtain rfl : z2 = 13 := (e2.trans ej).trans (by decide)
      refine lv_tableIn (tgt := 860) hx hb dL_law_40 (by decide) (by decide) rfl (by decide) ?_
      exact law_13 l C0 hN dC dI q1 q2 q3 q4 q5 q6 q28 q7 q8 q9 q10 q11 q12 q13 q14 q15 q16 q17 q18 q19 q20 q21 q22 q23 q24 q25 q26 q27 q29 q30 q31 q32 q33 q34 q35 q36 q38 q39 q40 q41 q42 q43 q44 q45 q47 cA37 cA46 H locs hK hP hD hS ls (lv_sub hl [0, 1, 2, 3, 4] rfl)
    · obtain rfl : z2 = 14 := (e2.trans ej).trans (by decide)
      refine lv_tableIn (tgt := 914) hx hb dL_law_40 (by decide) (by decide) rfl (by decide) ?_
      exact law_14 l C0 hN dC dI q1 q2 q3 q4 q5 q6 q28 q7 q8 q9 q10 q11 q12 q13 q14 q15 q16 q17 q18 q19 q20 q21 q22 q23 q24 q25 q26 q27 q29 q30 q31 q32 q33 q34 q35 q36 q38 q39 q40 q41 q42 q43 q44 q45 q47 cA37 cA46 H locs hK hP hD hS ls (lv_sub hl [0, 1, 2, 3, 4] rfl)
    · obtain rfl : z2 = 15 := (e2.trans ej).trans (by decide)
      refine lv_tableIn (tgt := 927) hx hb dL_law_40 (by decide) (by decide) rfl (by decide) ?_
      exact law_15 l C0 hN dC dI q1 q2 q3 q4 q5 q6 q28 q7 q8 q9 q10 q11 q12 q13 q14 q15 q16 q17 q18 q19 q20 q21 q22 q23 q24 q25 q26 q27 q29 q30 q31 q32 q33 q34 q35 q36 q38 q39 q40 q41 q42 q43 q44 q45 q47 cA37 cA46 H locs hK hP hD hS ls (lv_sub hl [0, 1, 2, 3, 4] rfl)
    · obtain rfl : z2 = 16 := (e2.trans ej).trans (by decide)
      refine lv_tableIn (tgt := 940) hx hb dL_law_40 (by decide) (by decide) rfl (by decide) ?_
      exact law_16 l C0 hN dC dI q1 q2 q3 q4 q5 q6 q28 q7 q8 q9 q10 q11 q12 q13 q14 q15 q16 q17 q18 q19 q20 q21 q22 q23 q24 q25 q26 q27 q29 q30 q31 q32 q33 q34 q35 q36 q38 q39 q40 q41 q42 q43 q44 q45 q47 cA37 cA46 H locs hK hP hD hS ls (lv_sub hl [0, 1, 2, 3, 4] rfl)
    · obtain rfl : z2 = 17 := (e2.trans ej).trans (by decide)
      refine lv_tableIn (tgt := 1001) hx hb dL_law_40 (by decide) (by decide) rfl (by decide) ?_
      exact law_17 l C0 hN dC dI q1 q2 q3 q4 q5 q6 q28 q7 q8 q9 q10 q11 q12 q13 q14 q15 q16 q17 q18 q19 q20 q21 q22 q23 q24 q25 q26 q27 q29 q30 q31 q32 q33 q34 q35 q36 q38 q39 q40 q41 q42 q43 q44 q45 q47 cA37 cA46 H locs hK hP hD hS ls (lv_sub hl [0, 1, 2, 3, 4] rfl)
    · obtain rfl : z2 = 18 := (e2.trans ej).trans (by decide)
      refine lv_tableIn (tgt := 1026) hx hb dL_law_40 (by decide) (by decide) rfl (by decide) ?_
      exact law_18 l C0 hN dC dI q1 q2 q3 q4 q5 q6 q28 q7 q8 q9 q10 q11 q12 q13 q14 q15 q16 q17 q18 q19 q20 q21 q22 q23 q24 q25 q26 q27 q29 q30 q31 q32 q33 q34 q35 q36 q38 q39 q40 q41 q42 q43 q44 q45 q47 cA37 cA46 H locs hK hP hD hS ls (lv_sub hl [0, 1, 2, 3, 4] rfl)
    · obtain rfl : z2 = 19 := (e2.trans ej).trans (by decide)
      refine lv_tableIn (tgt := 1087) hx hb dL_law_40 (by decide) (by decide) rfl (by decide) ?_
      exact law_19 l C0 hN dC dI q1 q2 q3 q4 q5 q6 q28 q7 q8 q9 q10 q11 q12 q13 q14 q15 q16 q17 q18 q19 q20 q21 q22 q23 q24 q25 q26 q27 q29 q30 q31 q32 q33 q34 q35 q36 q38 q39 q40 q41 q42 q43 q44 q45 q47 cA37 cA46 H locs hK hP hD hS ls (lv_sub hl [0, 1, 2, 3, 4] rfl)
    · obtain rfl : z2 = 20 := (e2.trans ej).trans (by decide)
      refine lv_tableIn (tgt := 1100) hx hb dL_law_40 (by decide) (by decide) rfl (by decide) ?_
      exact law_20 l C0 hN dC dI q1 q2 q3 q4 q5 q6 q28 q7 q8 q9 q10 q11 q12 q13 q14 q15 q16 q17 q18 q19 q20 q21 q22 q23 q24 q25 q26 q27 q29 q30 q31 q32 q33 q34 q35 q36 q38 q39 q40 q41 q42 q43 q44 q45 q47 cA37 cA46 H locs hK hP hD hS ls (lv_sub hl [0, 1, 2, 3, 4] rfl)
    · obtain rfl : z2 = 21 := (e2.trans ej).trans (by decide)
      refine lv_tableIn (tgt := 1125) hx hb dL_law_40 (by decide) (by decide) rfl (by decide) ?_
      exact law_21 l C0 hN dC dI q1 q2 q3 q4 q5 q6 q28 q7 q8 q9 q10 q11 q12 q13 q14 q15 q16 q17 q18 q19 q20 q21 q22 q23 q24 q25 q26 q27 q29 q30 q31 q32 q33 q34 q35 q36 q38 q39 q40 q41 q42 q43 q44 q45 q47 cA37 cA46 H locs hK hP hD hS ls (lv_sub hl [0, 1, 2, 3, 4] rfl)
    · obtain rfl : z2 = 22 := (e2.trans ej).trans (by decide)
      refine lv_tableIn (tgt := 1138) hx hb dL_law_40 (by decide) (by decide) rfl (by decide) ?_
      exact law_22 l C0 hN dC dI q1 q2 q3 q4 q5 q6 q28 q7 q8 q9 q10 q11 q12 q13 q14 q15 q16 q17 q18 q19 q20 q21 q22 q23 q24 q25 q26 q27 q29 q30 q31 q32 q33 q34 q35 q36 q38 q39 q40 q41 q42 q43 q44 q45 q47 cA37 cA46 H locs hK hP hD hS ls (lv_sub hl [0, 1, 2, 3, 4] rfl)
    · obtain rfl : z2 = 23 := (e2.trans ej).trans (by decide)
      refine lv_tableIn (tgt := 1151) hx hb dL_law_40 (by decide) (by decide) rfl (by decide) ?_
      exact law_23 l C0 hN dC dI q1 q2 q3 q4 q5 q6 q28 q7 q8 q9 q10 q11 q12 q13 q14 q15 q16 q17 q18 q19 q20 q21 q22 q23 q24 q25 q26 q27 q29 q30 q31 q32 q33 q34 q35 q36 q38 q39 q40 q41 q42 q43 q44 q45 q47 cA37 cA46 H locs hK hP hD hS ls (lv_sub hl [0, 1, 2, 3, 4] rfl)
    · obtain rfl : z2 = 24 := (e2.trans ej).trans (by decide)
      refine lv_tableIn (tgt := 1176) hx hb dL_law_40 (by decide) (by decide) rfl (by decide) ?_
      exact law_24 l C0 hN dC dI q1 q2 q3 q4 q5 q6 q28 q7 q8 q9 q10 q11 q12 q13 q14 q15 q16 q17 q18 q19 q20 q21 q22 q23 q24 q25 q26 q27 q29 q30 q31 q32 q33 q34 q35 q36 q38 q39 q40 q41 q42 q43 q44 q45 q47 cA37 cA46 H locs hK hP hD hS ls (lv_sub hl [0, 1, 2, 3, 4] rfl)
    · obtain rfl : z2 = 25 := (e2.trans ej).trans (by decide)
      refine lv_tableIn (tgt := 1189) hx hb dL_law_40 (by decide) (by decide) rfl (by decide) ?_
      exact law_25 l C0 hN dC dI q1 q2 q3 q4 q5 q6 q28 q7 q8 q9 q10 q11 q12 q13 q14 q15 q16 q17 q18 q19 q20 q21 q22 q23 q24 q25 q26 q27 q29 q30 q31 q32 q33 q34 q35 q36 q38 q39 q40 q41 q42 q43 q44 q45 q47 cA37 cA46 H locs hK hP hD hS ls (lv_sub hl [0, 1, 2, 3, 4] rfl)
    · obtain rfl : z2 = 26 := (e2.trans ej).trans (by decide)
      refine lv_tableIn (tgt := 1202) hx hb dL_law_40 (by decide) (by decide) rfl (by decide) ?_
      exact law_26 l C0 hN dC dI q1 q2 q3 q4 q5 q6 q28 q7 q8 q9 q10 q11 q12 q13 q14 q15 q16 q17 q18 q19 q20 q21 q22 q23 q24 q25 q26 q27 q29 q30 q31 q32 q33 q34 q35 q36 q38 q39 q40 q41 q42 q43 q44 q45 q47 cA37 cA46 H locs hK hP hD hS ls (lv_sub hl [0, 1, 2, 3, 4] rfl)
    · obtain rfl : z2 = 27 := (e2.trans ej).trans (by decide)
      refine lv_tableIn (tgt := 1215) hx hb dL_law_40 (by decide) (by decide) rfl (by decide) ?_
      exact law_27 l C0 hN dC dI q1 q2 q3 q4 q5 q6 q28 q7 q8 q9 q10 q11 q12 q13 q14 q15 q16 q17 q18 q19 q20 q21 q22 q23 q24 q25 q26 q27 q29 q30 q31 q32 q33 q34 q35 q36 q38 q39 q40 q41 q42 q43 q44 q45 q47 cA37 cA46 H locs hK hP hD hS ls (lv_sub hl [0, 1, 2, 3, 4] rfl)
    · obtain rfl : z2 = 28 := (e2.trans ej).trans (by decide)
      refine lv_tableIn (tgt := 1240) hx hb dL_law_40 (by decide) (by decide) rfl (by decide) ?_
      exact law_28 l C0 hN dC dI q1 q2 q3 q4 q5 q6 q28 q7 q8 q9 q10 q11 q12 q13 q14 q15 q16 q17 q18 q19 q20 q21 q22 q23 q24 q25 q26 q27 q29 q30 q31 q32 q33 q34 q35 q36 q38 q39 q40 q41 q42 q43 q44 q45 q47 cA37 cA46 H locs hK hP hD hS ls (lv_sub hl [0, 1, 2, 3, 4] rfl)
    · obtain rfl : z2 = 29 := (e2.trans ej).trans (by decide)
      refine lv_tableIn (tgt := 1289) hx hb dL_law_40 (by decide) (by decide) rfl (by decide) ?_
      exact law_29 l C0 hN dC dI q1 q2 q3 q4 q5 q6 q28 q7 q8 q9 q10 q11 q12 q13 q14 q15 q16 q17 q18 q19 q20 q21 q22 q23 q24 q25 q26 q27 q29 q30 q31 q32 q33 q34 q35 q36 q38 q39 q40 q41 q42 q43 q44 q45 q47 cA37 cA46 H locs hK hP hD hS ls (lv_sub hl [0, 1, 2, 3, 4] rfl)
    · obtain rfl : z2 = 30 := (e2.trans ej).trans (by decide)
      refine lv_tableIn (tgt := 1314) hx hb dL_law_40 (by decide) (by decide) rfl (by decide) ?_
      exact law_30 l C0 hN dC dI q1 q2 q3 q4 q5 q6 q28 q7 q8 q9 q10 q11 q12 q13 q14 q15 q16 q17 q18 q19 q20 q21 q22 q23 q24 q25 q26 q27 q29 q30 q31 q32 q33 q34 q35 q36 q38 q39 q40 q41 q42 q43 q44 q45 q47 cA37 cA46 H locs hK hP hD hS ls (lv_sub hl [0, 1, 2, 3, 4] rfl)
    · obtain rfl : z2 = 31 := (e2.trans ej).trans (by decide)
      refine lv_tableIn (tgt := 1339) hx hb dL_law_40 (by decide) (by decide) rfl (by decide) ?_
      exact law_31 l C0 hN dC dI q1 q2 q3 q4 q5 q6 q28 q7 q8 q9 q10 q11 q12 q13 q14 q15 q16 q17 q18 q19 q20 q21 q22 q23 q24 q25 q26 q27 q29 q30 q31 q32 q33 q34 q35 q36 q38 q39 q40 q41 q42 q43 q44 q45 q47 cA37 cA46 H locs hK hP hD hS ls (lv_sub hl [0, 1, 2, 3, 4] rfl)
    · obtain rfl : z2 = 32 := (e2.trans ej).trans (by decide)
      refine lv_tableIn (tgt := 1352) hx hb dL_law_40 (by decide) (by decide) rfl (by decide) ?_
      exact law_32 l C0 hN dC dI q1 q2 q3 q4 q5 q6 q28 q7 q8 q9 q10 q11 q12 q13 q14 q15 q16 q17 q18 q19 q20 q21 q22 q23 q24 q25 q26 q27 q29 q30 q31 q32 q33 q34 q35 q36 q38 q39 q40 q41 q42 q43 q44 q45 q47 cA37 cA46 H locs hK hP hD hS ls (lv_sub hl [0, 1, 2, 3, 4] rfl)
    · obtain rfl : z2 = 33 := (e2.trans ej).trans (by decide)
      refine lv_tableIn (tgt := 1441) hx hb dL_law_40 (by decide) (by decide) rfl (by decide) ?_
      exact law_33 l C0 hN dC dI q1 q2 q3 q4 q5 q6 q28 q7 q8 q9 q10 q11 q12 q13 q14 q15 q16 q17 q18 q19 q20 q21 q22 q23 q24 q25 q26 q27 q29 q30 q31 q32 q33 q34 q35 q36 q38 q39 q40 q41 q42 q43 q44 q45 q47 cA37 cA46 H locs hK hP hD hS ls (lv_sub hl [0, 1, 2, 3, 4] rfl)
    · obtain rfl : z2 = 34 := (e2.trans ej).trans (by decide)
      refine lv_tableIn (tgt := 1518) hx hb dL_law_40 (by decide) (by decide) rfl (by decide) ?_
      exact law_34 l C0 hN dC dI q1 q2 q3 q4 q5 q6 q28 q7 q8 q9 q10 q11 q12 q13 q14 q15 q16 q17 q18 q19 q20 q21 q22 q23 q24 q25 q26 q27 q29 q30 q31 q32 q33 q34 q35 q36 q38 q39 q40 q41 q42 q43 q44 q45 q47 cA37 cA46 H locs hK hP hD hS ls (lv_sub hl [0, 1, 2, 3, 4] rfl)
    · obtain rfl : z2 = 35 := (e2.trans ej).trans (by decide)
      refine lv_tableIn (tgt := 1543) hx hb dL_law_40 (by decide) (by decide) rfl (by decide) ?_
      exact law_35 l C0 hN dC dI q1 q2 q3 q4 q5 q6 q28 q7 q8 q9 q10 q11 q12 q13 q14 q15 q16 q17 q18 q19 q20 q21 q22 q23 q24 q25 q26 q27 q29 q30 q31 q32 q33 q34 q35 q36 q38 q39 q40 q41 q42 q43 q44 q45 q47 cA37 cA46 H locs hK hP hD hS ls (lv_sub hl [0, 1, 2, 3, 4] rfl)
    · obtain rfl : z2 = 36 := (e2.trans ej).trans (by decide)
      refine lv_tableIn (tgt := 1568) hx hb dL_law_40 (by decide) (by decide) rfl (by decide) ?_
      exact law_36 l C0 hN dC dI q1 q2 q3 q4 q5 q6 q28 q7 q8 q9 q10 q11 q12 q13 q14 q15 q16 q17 q18 q19 q20 q21 q22 q23 q24 q25 q26 q27 q29 q30 q31 q32 q33 q34 q35 q36 q38 q39 q40 q41 q42 q43 q44 q45 q47 cA37 cA46 H locs hK hP hD hS ls (lv_sub hl [0, 1, 2, 3, 4] rfl)
    · obtain rfl : z2 = 37 := (e2.trans ej).trans (by decide)
      refine lv_tableIn (tgt := 1605) hx hb dL_law_40 (by decide) (by decide) rfl (by decide) ?_
      exact law_37 l C0 hN dC dI q1 q2 q3 q4 q5 q6 q28 q7 q8 q9 q10 q11 q12 q13 q14 q15 q16 q17 q18 q19 q20 q21 q22 q23 q24 q25 q26 q27 q29 q30 q31 q32 q33 q34 q35 q36 q38 q39 q40 q41 q42 q43 q44 q45 q47 cA37 cA46 H locs hK hP hD hS ls (lv_sub hl [0, 1, 2, 3, 4] rfl)
    · obtain rfl : z2 = 38 := (e2.trans ej).trans (by decide)
      refine lv_tableIn (tgt := 1654) hx hb dL_law_40 (by decide) (by decide) rfl (by decide) ?_
      exact law_38 l C0 hN dC dI q1 q2 q3 q4 q5 q6 q28 q7 q8 q9 q10 q11 q12 q13 q14 q15 q16 q17 q18 q19 q20 q21 q22 q23 q24 q25 q26 q27 q29 q30 q31 q32 q33 q34 q35 q36 q38 q39 q40 q41 q42 q43 q44 q45 q47 cA37 cA46 H locs hK hP hD hS ls (lv_sub hl [0, 1, 2, 3, 4] rfl)
    · obtain rfl : z2 = 39 := (e2.trans ej).trans (by decide)
      refine lv_tableIn (tgt := 1691) hx hb dL_law_40 (by decide) (by decide) rfl (by decide) ?_
      exact law_39 l C0 hN dC dI q1 q2 q3 q4 q5 q6 q28 q7 q8 q9 q10 q11 q12 q13 q14 q15 q16 q17 q18 q19 q20 q21 q22 q23 q24 q25 q26 q27 q29 q30 q31 q32 q33 q34 q35 q36 q38 q39 q40 q41 q42 q43 q44 q45 q47 cA37 cA46 H locs hK hP hD hS ls (lv_sub hl [0, 1, 2, 3, 4] rfl)
    · obtain rfl : z2 = 40 := (e2.trans ej).trans (by decide)
      refine lv_tableIn (tgt := 1752) hx hb dL_law_40 (by decide) (by decide) rfl (by decide) ?_
      exact law_40 l C0 hN dC dI q1 q2 q3 q4 q5 q6 q28 q7 q8 q9 q10 q11 q12 q13 q14 q15 q16 q17 q18 q19 q20 q21 q22 q23 q24 q25 q26 q27 q29 q30 q31 q32 q33 q34 q35 q36 q38 q39 q40 q41 q42 q43 q44 q45 q47 cA37 cA46 H locs hK hP hD hS ls (lv_sub hl [0, 1, 2, 3, 4] rfl)
    · obtain rfl : z2 = 41 := (e2.trans ej).trans (by decide)
      refine lv_tableIn (tgt := 1777) hx hb dL_law_40 (by decide) (by decide) rfl (by decide) ?_
      exact law_41 l C0 hN dC dI q1 q2 q3 q4 q5 q6 q28 q7 q8 q9 q10 q11 q12 q13 q14 q15 q16 q17 q18 q19 q20 q21 q22 q23 q24 q25 q26 q27 q29 q30 q31 q32 q33 q34 q35 q36 q38 q39 q40 q41 q42 q43 q44 q45 q47 cA37 cA46 H locs hK hP hD hS ls (lv_sub hl [0, 1, 2, 3, 4] rfl)
    · obtain rfl : z2 = 42 := (e2.trans ej).trans (by decide)
      refine lv_tableIn (tgt := 1802) hx hb dL_law_40 (by decide) (by decide) rfl (by decide) ?_
      exact law_42 l C0 hN dC dI q1 q2 q3 q4 q5 q6 q28 q7 q8 q9 q10 q11 q12 q13 q14 q15 q16 q17 q18 q19 q20 q21 q22 q23 q24 q25 q26 q27 q29 q30 q31 q32 q33 q34 q35 q36 q38 q39 q40 q41 q42 q43 q44 q45 q47 cA37 cA46 H locs hK hP hD hS ls (lv_sub hl [0, 1, 2, 3, 4] rfl)
    · obtain rfl : z2 = 43 := (e2.trans ej).trans (by decide)
      refine lv_tableIn (tgt := 1815) hx hb dL_law_40 (by decide) (by decide) rfl (by decide) ?_
      exact law_43 l C0 hN dC dI q1 q2 q3 q4 q5 q6 q28 q7 q8 q9 q10 q11 q12 q13 q14 q15 q16 q17 q18 q19 q20 q21 q22 q23 q24 q25 q26 q27 q29 q30 q31 q32 q33 q34 q35 q36 q38 q39 q40 q41 q42 q43 q44 q45 q47 cA37 cA46 H locs hK hP hD hS ls (lv_sub hl [0, 1, 2, 3, 4] rfl)
    · obtain rfl : z2 = 44 := (e2.trans ej).trans (by decide)
      refine lv_tableIn (tgt := 1840) hx hb dL_law_40 (by decide) (by decide) rfl (by decide) ?_
      exact law_44 l C0 hN dC dI q1 q2 q3 q4 q5 q6 q28 q7 q8 q9 q10 q11 q12 q13 q14 q15 q16 q17 q18 q19 q20 q21 q22 q23 q24 q25 q26 q27 q29 q30 q31 q32 q33 q34 q35 q36 q38 q39 q40 q41 q42 q43 q44 q45 q47 cA37 cA46 H locs hK hP hD hS ls (lv_sub hl [0, 1, 2, 3, 4] rfl)
    · obtain rfl : z2 = 45 := (e2.trans ej).trans (by decide)
      refine lv_tableIn (tgt := 1853) hx hb dL_law_40 (by decide) (by decide) rfl (by decide) ?_
      exact law_45 l C0 hN dC dI q1 q2 q3 q4 q5 q6 q28 q7 q8 q9 q10 q11 q12 q13 q14 q15 q16 q17 q18 q19 q20 q21 q22 q23 q24 q25 q26 q27 q29 q30 q31 q32 q33 q34 q35 q36 q38 q39 q40 q41 q42 q43 q44 q45 q47 cA37 cA46 H locs hK hP hD hS ls (lv_sub hl [0, 1, 2, 3, 4] rfl)
    · obtain rfl : z2 = 46 := (e2.trans ej).trans (by decide)
      refine lv_tableIn (tgt := 1866) hx hb dL_law_40 (by decide) (by decide) rfl (by decide) ?_
      exact law_46 l C0 hN dC dI q1 q2 q3 q4 q5 q6 q28 q7 q8 q9 q10 q11 q12 q13 q14 q15 q16 q17 q18 q19 q20 q21 q22 q23 q24 q25 q26 q27 q29 q30 q31 q32 q33 q34 q35 q36 q38 q39 q40 q41 q42 q43 q44 q45 q47 cA37 cA46 H locs hK hP hD hS ls (lv_sub hl [0, 1, 2, 3, 4] rfl)
    · obtain rfl : z2 = 47 := (e2.trans ej).trans (by decide)
      refine lv_tableIn (tgt := 1891) hx hb dL_law_40 (by decide) (by decide) rfl (by decide) ?_
      exact law_47 l hl0 C0 hN hU hV hLB dC dI q1 q2 q3 q4 q5 q6 q28 q7 q8 q9 q10 q11 q12 q13 q14 q15 q16 q17 q18 q19 q20 q21 q22 q23 q24 q25 q26 q27 q29 q30 q31 q32 q33 q34 q35 q36 q38 q39 q40 q41 q42 q43 q44 q45 q47 cA37 cA46 H locs hK hP hD hS ls (lv_sub hl [0, 1, 2, 3, 4] rfl)
    · obtain rfl : z2 = 48 := (e2.trans ej).trans (by decide)
      refine lv_tableIn (tgt := 1947) hx hb dL_law_40 (by decide) (by decide) rfl (by decide) ?_
      exact law_48 l C0 hN dC dI q1 q2 q3 q4 q5 q6 q28 q7 q8 q9 q10 q11 q12 q13 q14 q15 q16 q17 q18 q19 q20 q21 q22 q23 q24 q25 q26 q27 q29 q30 q31 q32 q33 q34 q35 q36 q38 q39 q40 q41 q42 q43 q44 q45 q47 cA37 cA46 H locs hK hP hD hS ls (lv_sub hl [0, 1, 2, 3, 4] rfl)
    · obtain rfl : z2 = 49 := (e2.trans ej).trans (by decide)
      refine lv_tableIn (tgt := 1972) hx hb dL_law_40 (by decide) (by decide) rfl (by decide) ?_
      exact law_49 l C0 hN dC dI q1 q2 q3 q4 q5 q6 q28 q7 q8 q9 q10 q11 q12 q13 q14 q15 q16 q17 q18 q19 q20 q21 q22 q23 q24 q25 q26 q27 q29 q30 q31 q32 q33 q34 q35 q36 q38 q39 q40 q41 q42 q43 q44 q45 q47 cA37 cA46 H locs hK hP hD hS ls (lv_sub hl [0, 1, 2, 3, 4] rfl)
    · have e3 : z2 = nI j := e2.trans ej
      refine lv_tableOut (tgt := 1985) hx hb dL_law_40 (Or.inr (by rw [e3, nI_toInt (by omega)]; omega)) (by decide) ?_
      exact law_end l C0 H locs hS (Nat.le_of_ble_eq_true rfl) (Nat.le_of_ble_eq_true rfl) ls (lv_sub hl [4, 0] rfl)
set_option maxHeartbeats 4000000 in
theorem lw_walk (l : Launch) (hl0 : l.stackTraces = false) (b : Addr) (xs : List Int32) : MetFree l x (headSpec (Jvm.Cond.code x code maxLocals ret :: tables_1) room_1) (lw_P b xs) (fun _ _ _ _ _ => True) lw_Q := by
  refine MetFree.of_bodyS (code := code) (maxLocals := maxLocals) (ret := ret) (by decide) ?_ ?_
  · intro args s m h hn
    obtain ⟨meth, c, h1, h2, h3, h4, h5, h6, -, -⟩ := Cond.code_spec hn (atoms_spec (ws := Jvm.Cond.code x code maxLocals ret :: tables_1) h _ List.mem_cons_self)
    exact ⟨meth, c, h1, h2, h3, h4, h5, h6⟩
  · intro p e s m args below meth c s₁ B hml0 hP _
    obtain ⟨rfl, hx, hbd, hgv⟩ := hP
    obtain ⟨scr, harrAt, hlist, hof, hsmall⟩ := hx
    obtain ⟨hcb, hkn, -, -⟩ := State.arrayAt?_spec harrAt
    have hown : s.vm.findClass R_law = some m.cls := findClass_of_methodNamed B.named
    have hts0 : ∀ c ∈ (Jvm.Cond.code x code maxLocals ret :: tables_1), c.before #[Value.ref b] s = true := atoms_spec (ws := Jvm.Cond.code x code maxLocals ret :: tables_1) B.pre
    have hts : ∀ w ∈ lw_tbl, w.before #[Value.ref b] s = true := k2_hts_sels lw_privs (fun w hw => hts0 w (List.mem_cons_of_mem _ hw)) lw_privs_ok
    have hml : c.maxLocals = 7 := B.maxLocals_eq (hts0 _ List.mem_cons_self)
    have X₀ : Stand p l e room_1 s m #[Value.ref b] below meth c s₁ [] 0 0 := Stand.of_body B
    have hh0 : s₁.heap = s.heap := by rw [B.state]; rfl
    have hsz : scr.slots.size = xs.length := by rw [← Array.length_toList, hlist, List.length_map]
    have hval : ∀ j : Nat, j < xs.length → scr.slots[j]? = some (.int (xs.getD j 0)) := fun j hj => by
      rw [← Array.getElem?_toList, hlist]
      simp [hj]
    have hbl : b < s.heap.size := (Array.getElem?_eq_some_iff.mp hcb).1
    have hX : va_X b xs.length (fun j => xs.getD j 0) s s.heap := ⟨scr, hcb, hof, hkn, hsz, hval⟩
    have K : W p l e room_1 s m #[Value.ref b] below meth c s₁.heap [] 0 0 (lw_Z below #[Value.ref b] s) (entryFrame m ([Value.ref b] : List Value).toArray 7) := by
      rw [hh0]
      exact whole_start l hl0 hbd ⟨B.exec, B.bytes, B.returns, hml, hown, hts, hX, hbl, B.notSynchronized, hgv⟩
    obtain ⟨t, a1, o, b1, b2, b3⟩ := K s₁ rfl X₀
    exact ⟨t, o, a1, b1, b2, b3⟩
theorem lw_pre_spec {args : Array Value} {s : State} (h : (Jvm.Cond.and given_1 narrow_1).before args s = true) (hr : rest_1_c.before args s = true) : ∃ (b : Addr) (xs : List Int32), lw_P b xs args s := by
  have hs := flat_of_before _ h
  have hq := flat_of_before _ hr
  have hc : (Cond.count 1).before args s = true := hs _ (by decide +kernel)
  have harr : (Cond.arrayOf (.arg 0) .int).before args s = true := hs _ (by decide +kernel)
  have hle : (Cond.le (.length (.arg 0)) (.int 6)).before args s = true := hs _ (by decide +kernel)
  have hlen : (Cond.isInt (.length (.arg 0))).before args s = true := hq _ (by decide +kernel)
  have hall : (Cond.all (.arg 0) (.isInt (.elem (.arg 0) (.index 0)))).before args s = true := hq _ (by decide +kernel)
  obtain ⟨b, xs, hb, hx⟩ := State.ints_of_pre rfl harr hlen hall
  have hsm : xs.length < 2 ^ 31 := hx.choose_spec.2.2.2
  have hev : (Term.length (.arg 0)).eval args s none [] s = some (.int xs.length.toInt32) := hx.length_eval hb
  have hv := Cond.le_ints hev (show (Term.int 6).eval args s none [] s = some (.int 6) from rfl)
  have hd : xs.length.toInt32 ≤ 6 := by
    simpa [Cond.before, Cond.holds, hv] using hle
  have hN : xs.length ≤ 6 := (Int32.ofNat_le_ofNat hsm (by decide)).mp (show Int32.ofNat xs.length ≤ Int32.ofNat 6 from hd)
  exact ⟨b, xs, Cond.one_arg hc (show args[0]? = some (.ref b) from hb), hx, hN, h⟩
theorem lw_comes (l : Launch) (hl0 : l.stackTraces = false) : Comes l x (Jvm.Cond.code x code maxLocals ret :: tables_1) room_1 (fun tb e args s => Calls_1 tb e args s ∧ rest_1 tb e args s ∧ Pre_1 tb e args s)
    (fun _ _ args s o t => lw_Q args s o t) := by
  intro p e ha hc hk s m args below hf hfit hheap happ hpre
  obtain ⟨b, xs, hP⟩ := lw_pre_spec hpre.2.2 hpre.2.1
  obtain ⟨k, o, h1, h2, h3, hQ⟩ := lw_walk l hl0 b xs p e ha hc hk s m args below hf ((Spec.applies_iff_loose hf).mp happ).1 hP trivial
  exact ⟨k, o, h1, h2, h3, hQ⟩
theorem lw_frame {s t : State} {o : Outcome} {args : Array Value} (h : Framed s o t [] 600002 7302232) :
    Framed s o t (fieldLocs frame_1_writes args s ++ arrayLocs frame_1_arrays args s ++ staticLocs frame_1_statics s) 600002 7302232 := h
theorem lw_limb (L : Cond) (hL : ∀ (args : Array Value) (s t : State), L.after args s (.returned (some (.int 1))) t = true) :
    ArmFor flags0 classFile x code maxLocals ret World_1 tables_1 room_1 Calls_1 rest_1 Pre_1
      (fun tb e a s o t => postC L tb e a s o t ∧ Framed s o t (fieldLocs frame_1_writes a s ++ arrayLocs frame_1_arrays a s ++ staticLocs frame_1_statics s) 600002 7302232) := by
  intro l hfl _ _ p e ha hc hk s m args below hf hfit hheap happ hpre
  have hl0 : l.stackTraces = false := by
    show (!l.flags.contains Jvm.noTraceFlag) = false
    rw [hfl]
    decide +kernel
  obtain ⟨k, o, h1, h2, h3, rfl, hF⟩ := lw_comes l hl0 p e ha hc hk s m args below hf hfit hheap happ hpre
  exact ⟨k, _, h1, h2, h3, hL args s _, lw_frame hF⟩
theorem i_vc : Claimed_1_1 ∧ Claimed_1_2 := ⟨lw_limb limb_1_1 (fun args s t => by simp [limb_1_1, Cond.after, Cond.holds, Cond.value]), lw_limb limb_1_2 (fun args s t => Cond.after_iff.mpr (by
  first | (rw [show limb_1_2 = Cond.eq .result (.int 1) from rfl, Cond.eq_ints (x := 1) (y := 1) rfl rfl]; simp; done) | (simp [limb_1_2, Cond.value, Term.eval]; done)))⟩
