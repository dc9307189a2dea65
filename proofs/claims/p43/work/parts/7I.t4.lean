/-! the functions answer, part 4 -/
theorem t_f_X10_rest_L22 {k1 : Int32} {o12 : (Int32 × TX10_x)} (h_k1 : R32 (0) (99) k1) (h_o12_1 : R32 (0) (0) o12.1) (h_o12_2_1 : R32 (0) (0) o12.2.1) : ∀ (n : Nat) (v22_l2 : Int32), R32 (0) (70) v22_l2 → (70 : Int) - v22_l2.toInt < (n : Int) → TotP (f_X10_rest_L22 k1 o12 n v22_l2) (fun (r : Int32 × TX10_x) => R32 (-2) (69) r.1 ∧ R32 (0) (2) r.2.1) := by
  intro n
  induction n with
  | zero =>
    intro v22_l2 h_v22_l2 hm
    exact (ms_0u h_v22_l2 hm).elim
  | succ n ih =>
    intro v22_l2 h_v22_l2 hm
    rw [f_X10_rest_L22]
    refine tp_if (fun c1 => ?_) (fun c1 => ?_)
    · skip
      have r2 : R32 (70) (70) v22_l2 := r_le2 (r_n (x := (70 : Int32)) (l := 70) (h := 70) (by decide) (by decide)) h_v22_l2 c1
      exact tp_s ⟨(r_w (l' := -2) (h' := 69) (r_n (x := (-2 : Int32)) (l := -2) (h := -2) (by decide) (by decide)) (by decide) (by decide)), (r_w (l' := 0) (h' := 2) h_o12_2_1 (by decide) (by decide))⟩
    · skip
      have r3 : R32 (0) (69) v22_l2 := r_nle2 (by decide) (r_n (x := (70 : Int32)) (l := 70) (h := 70) (by decide) (by decide)) h_v22_l2 c1
      refine tp_b (t_f_X9_isRest h_k1 r3) (fun o30 h4 => ?_)
      refine tp_if (fun c5 => ?_) (fun c5 => ?_)
      · skip
        have r6 : R32 (0) (0) o30 := r_eq1 (l := 0) (h := 0) (by decide) (by decide) h4 (r_n (x := (0 : Int32)) (l := 0) (h := 0) (by decide) (by decide)) c5
        exact ih _ (r_w (l' := 0) (h' := 70) (r_add (l := 1) (h := 70) r3 (r_n (x := (1 : Int32)) (l := 1) (h := 1) (by decide) (by decide)) (by decide) (by decide) (by decide) (by decide)) (by decide) (by decide)) (ms_up (y := (1 : Int32)) r3 (by decide) (by decide) (by decide) hm)
      · skip
        have r7 : R32 (1) (1) o30 := r_neL (by decide) h4 (r_n (x := (0 : Int32)) (l := 0) (h := 0) (by decide) (by decide)) c5
        exact tp_s ⟨(r_w (l' := -2) (h' := 69) r3 (by decide) (by decide)), (r_w (l' := 0) (h' := 2) h_o12_2_1 (by decide) (by decide))⟩
theorem t_f_X10_rest {k1 : Int32} {x_x : TX10_x} {p_p : TX6_p} (h_p_p_1 : R32 (0) (8) p_p.1) (h_p_p_2_1 : R32 (0) (9) p_p.2.1) (h_p_p_2_2_2_2_1 : R32 (0) (4) p_p.2.2.2.2.1) (h_p_p_2_2_2_2_2_1 : R32 (0) (5) p_p.2.2.2.2.2.1) (h_p_p_2_2_2_2_2_2_1 : R32 (0) (6) p_p.2.2.2.2.2.2.1) (h_p_p_2_2_2_2_2_2_2_1 : R32 (0) (6) p_p.2.2.2.2.2.2.2.1) : TotP (f_X10_rest k1 x_x p_p) (fun (r : Int32 × TX10_x) => R32 (-2) (69) r.1 ∧ R32 (0) (2) r.2.1) := by
  unfold f_X10_rest
  refine tp_e (f_X10_within.eq_1 _ _ _) ?_
  refine tp_nif (fun c1 => ?_) (fun c1 => ?_)
  · skip
    have r2 : R32 (-2147483648) (-1) k1 := r_lt1 (by decide) (r_top _) (r_n (x := (0 : Int32)) (l := 0) (h := 0) (by decide) (by decide)) c1
    refine tp_nl ?_
    refine tp_e (f_X10_numberTrouble.eq_1 _ _) ?_
    refine tp_nn ?_
    refine tp_e (f_X10_pierTrouble.eq_1 _) ?_
    refine tp_nif (fun c3 => ?_) (fun c3 => ?_)
    · skip
      have r4 : R32 (0) (0) p_p.1 := r_eq1 (l := 0) (h := 0) (by decide) (by decide) h_p_p_1 (r_n (x := (0 : Int32)) (l := 0) (h := 0) (by decide) (by decide)) c3
      refine tp_nl ?_
      refine tp_niff (d_ne2 (r_n (x := (1 : Int32)) (l := 1) (h := 1) (by decide) (by decide)) (r_n (x := (0 : Int32)) (l := 0) (h := 0) (by decide) (by decide)) (by decide)) ?_
      refine tp_e (f_X10_numberTrouble_J17.eq_1 _) ?_
      refine tp_nl ?_
      refine tp_e (f_X10_refused.eq_1 _ _) ?_
      refine tp_niff (d_ne2 (r_n (x := (1 : Int32)) (l := 1) (h := 1) (by decide) (by decide)) (r_n (x := (0 : Int32)) (l := 0) (h := 0) (by decide) (by decide)) (by decide)) ?_
      refine tp_nl ?_
      refine tp_iff (d_ne2 (r_n (x := (1 : Int32)) (l := 1) (h := 1) (by decide) (by decide)) (r_n (x := (0 : Int32)) (l := 0) (h := 0) (by decide) (by decide)) (by decide)) ?_
      exact tp_s ⟨(r_w (l' := -2) (h' := 69) (r_n (x := (-1 : Int32)) (l := -1) (h := -1) (by decide) (by decide)) (by decide) (by decide)), (r_w (l' := 0) (h' := 2) (r_n (x := (1 : Int32)) (l := 1) (h := 1) (by decide) (by decide)) (by decide) (by decide))⟩
    · skip
      have r5 : R32 (1) (8) p_p.1 := r_neL (by decide) h_p_p_1 (r_n (x := (0 : Int32)) (l := 0) (h := 0) (by decide) (by decide)) c3
      refine tp_nl ?_
      refine tp_nift (d_eq (r_n (x := (0 : Int32)) (l := 0) (h := 0) (by decide) (by decide)) (r_n (x := (0 : Int32)) (l := 0) (h := 0) (by decide) (by decide))) ?_
      refine tp_nift (d_eq (r_n (x := (0 : Int32)) (l := 0) (h := 0) (by decide) (by decide)) (r_n (x := (0 : Int32)) (l := 0) (h := 0) (by decide) (by decide))) ?_
      refine tp_nl ?_
      refine tp_e (f_X10_refused.eq_1 _ _) ?_
      refine tp_niff (d_ne2 (r_n (x := (2 : Int32)) (l := 2) (h := 2) (by decide) (by decide)) (r_n (x := (0 : Int32)) (l := 0) (h := 0) (by decide) (by decide)) (by decide)) ?_
      refine tp_nl ?_
      refine tp_iff (d_ne2 (r_n (x := (1 : Int32)) (l := 1) (h := 1) (by decide) (by decide)) (r_n (x := (0 : Int32)) (l := 0) (h := 0) (by decide) (by decide)) (by decide)) ?_
      exact tp_s ⟨(r_w (l' := -2) (h' := 69) (r_n (x := (-1 : Int32)) (l := -1) (h := -1) (by decide) (by decide)) (by decide) (by decide)), (r_w (l' := 0) (h' := 2) (r_n (x := (2 : Int32)) (l := 2) (h := 2) (by decide) (by decide)) (by decide) (by decide))⟩
  · skip
    have r6 : R32 (0) (2147483647) k1 := r_nlt1 (r_top _) (r_n (x := (0 : Int32)) (l := 0) (h := 0) (by decide) (by decide)) c1
    refine tp_nif (fun c7 => ?_) (fun c7 => ?_)
    · skip
      have r8 : R32 (100) (2147483647) k1 := r_lt2 (by decide) (r_n (x := (99 : Int32)) (l := 99) (h := 99) (by decide) (by decide)) r6 c7
      refine tp_nl ?_
      refine tp_e (f_X10_numberTrouble.eq_1 _ _) ?_
      refine tp_nn ?_
      refine tp_e (f_X10_pierTrouble.eq_1 _) ?_
      refine tp_nif (fun c9 => ?_) (fun c9 => ?_)
      · skip
        have r10 : R32 (0) (0) p_p.1 := r_eq1 (l := 0) (h := 0) (by decide) (by decide) h_p_p_1 (r_n (x := (0 : Int32)) (l := 0) (h := 0) (by decide) (by decide)) c9
        refine tp_nl ?_
        refine tp_niff (d_ne2 (r_n (x := (1 : Int32)) (l := 1) (h := 1) (by decide) (by decide)) (r_n (x := (0 : Int32)) (l := 0) (h := 0) (by decide) (by decide)) (by decide)) ?_
        refine tp_e (f_X10_numberTrouble_J17.eq_1 _) ?_
        refine tp_nl ?_
        refine tp_e (f_X10_refused.eq_1 _ _) ?_
        refine tp_niff (d_ne2 (r_n (x := (1 : Int32)) (l := 1) (h := 1) (by decide) (by decide)) (r_n (x := (0 : Int32)) (l := 0) (h := 0) (by decide) (by decide)) (by decide)) ?_
        refine tp_nl ?_
        refine tp_iff (d_ne2 (r_n (x := (1 : Int32)) (l := 1) (h := 1) (by decide) (by decide)) (r_n (x := (0 : Int32)) (l := 0) (h := 0) (by decide) (by decide)) (by decide)) ?_
        exact tp_s ⟨(r_w (l' := -2) (h' := 69) (r_n (x := (-1 : Int32)) (l := -1) (h := -1) (by decide) (by decide)) (by decide) (by decide)), (r_w (l' := 0) (h' := 2) (r_n (x := (1 : Int32)) (l := 1) (h := 1) (by decide) (by decide)) (by decide) (by decide))⟩
      · skip
        have r11 : R32 (1) (8) p_p.1 := r_neL (by decide) h_p_p_1 (r_n (x := (0 : Int32)) (l := 0) (h := 0) (by decide) (by decide)) c9
        refine tp_nl ?_
        refine tp_nift (d_eq (r_n (x := (0 : Int32)) (l := 0) (h := 0) (by decide) (by decide)) (r_n (x := (0 : Int32)) (l := 0) (h := 0) (by decide) (by decide))) ?_
        refine tp_nift (d_eq (r_n (x := (0 : Int32)) (l := 0) (h := 0) (by decide) (by decide)) (r_n (x := (0 : Int32)) (l := 0) (h := 0) (by decide) (by decide))) ?_
        refine tp_nl ?_
        refine tp_e (f_X10_refused.eq_1 _ _) ?_
        refine tp_niff (d_ne2 (r_n (x := (2 : Int32)) (l := 2) (h := 2) (by decide) (by decide)) (r_n (x := (0 : Int32)) (l := 0) (h := 0) (by decide) (by decide)) (by decide)) ?_
        refine tp_nl ?_
        refine tp_iff (d_ne2 (r_n (x := (1 : Int32)) (l := 1) (h := 1) (by decide) (by decide)) (r_n (x := (0 : Int32)) (l := 0) (h := 0) (by decide) (by decide)) (by decide)) ?_
        exact tp_s ⟨(r_w (l' := -2) (h' := 69) (r_n (x := (-1 : Int32)) (l := -1) (h := -1) (by decide) (by decide)) (by decide) (by decide)), (r_w (l' := 0) (h' := 2) (r_n (x := (2 : Int32)) (l := 2) (h := 2) (by decide) (by decide)) (by decide) (by decide))⟩
    · skip
      have r12 : R32 (0) (99) k1 := r_nlt2 (r_n (x := (99 : Int32)) (l := 99) (h := 99) (by decide) (by decide)) r6 c7
      refine tp_nl ?_
      refine tp_e (f_X10_numberTrouble.eq_1 _ _) ?_
      refine tp_nn ?_
      refine tp_e (f_X10_pierTrouble.eq_1 _) ?_
      refine tp_nif (fun c13 => ?_) (fun c13 => ?_)
      · skip
        have r14 : R32 (0) (0) p_p.1 := r_eq1 (l := 0) (h := 0) (by decide) (by decide) h_p_p_1 (r_n (x := (0 : Int32)) (l := 0) (h := 0) (by decide) (by decide)) c13
        refine tp_nl ?_
        refine tp_niff (d_ne2 (r_n (x := (1 : Int32)) (l := 1) (h := 1) (by decide) (by decide)) (r_n (x := (0 : Int32)) (l := 0) (h := 0) (by decide) (by decide)) (by decide)) ?_
        refine tp_e (f_X10_numberTrouble_J17.eq_1 _) ?_
        refine tp_nl ?_
        refine tp_e (f_X10_refused.eq_1 _ _) ?_
        refine tp_niff (d_ne2 (r_n (x := (1 : Int32)) (l := 1) (h := 1) (by decide) (by decide)) (r_n (x := (0 : Int32)) (l := 0) (h := 0) (by decide) (by decide)) (by decide)) ?_
        refine tp_nl ?_
        refine tp_iff (d_ne2 (r_n (x := (1 : Int32)) (l := 1) (h := 1) (by decide) (by decide)) (r_n (x := (0 : Int32)) (l := 0) (h := 0) (by decide) (by decide)) (by decide)) ?_
        exact tp_s ⟨(r_w (l' := -2) (h' := 69) (r_n (x := (-1 : Int32)) (l := -1) (h := -1) (by decide) (by decide)) (by decide) (by decide)), (r_w (l' := 0) (h' := 2) (r_n (x := (1 : Int32)) (l := 1) (h := 1) (by decide) (by decide)) (by decide) (by decide))⟩
      · skip
        have r15 : R32 (1) (8) p_p.1 := r_neL (by decide) h_p_p_1 (r_n (x := (0 : Int32)) (l := 0) (h := 0) (by decide) (by decide)) c13
        refine tp_nl ?_
        refine tp_nift (d_eq (r_n (x := (0 : Int32)) (l := 0) (h := 0) (by decide) (by decide)) (r_n (x := (0 : Int32)) (l := 0) (h := 0) (by decide) (by decide))) ?_
        refine tp_niff (d_ne2 (r_n (x := (1 : Int32)) (l := 1) (h := 1) (by decide) (by decide)) (r_n (x := (0 : Int32)) (l := 0) (h := 0) (by decide) (by decide)) (by decide)) ?_
        refine tp_e (f_X10_numberTrouble_J17.eq_1 _) ?_
        refine tp_nl ?_
        refine tp_e (f_X10_refused.eq_1 _ _) ?_
        refine tp_nift (d_eq (r_n (x := (0 : Int32)) (l := 0) (h := 0) (by decide) (by decide)) (r_n (x := (0 : Int32)) (l := 0) (h := 0) (by decide) (by decide))) ?_
        refine tp_nl ?_
        refine tp_ift (d_eq (r_n (x := (0 : Int32)) (l := 0) (h := 0) (by decide) (by decide)) (r_n (x := (0 : Int32)) (l := 0) (h := 0) (by decide) (by decide))) ?_
        exact t_f_X10_rest_L22 r12 (r_n (x := (0 : Int32)) (l := 0) (h := 0) (by decide) (by decide)) (r_n (x := (0 : Int32)) (l := 0) (h := 0) (by decide) (by decide)) FU _ (r_w (l' := 0) (h' := 70) (r_n (x := (0 : Int32)) (l := 0) (h := 0) (by decide) (by decide)) (by decide) (by decide)) (fu_up (r_w (l' := 0) (h' := 70) (r_n (x := (0 : Int32)) (l := 0) (h := 0) (by decide) (by decide)) (by decide) (by decide)) (by decide))
theorem t_f_X1_note_J40 {k15_ : Int32 → TX1_y → Option TX1_y} {v15_l3 : Int32} {v40_y_y : TX1_y} {N15 : Nat} (hk15 : ∀ (v15_l3 : Int32) (v15_y_y : TX1_y), R32 (0) (6) v15_l3 → (6 : Int) - v15_l3.toInt < (N15 : Nat) → TotP (k15_ v15_l3 v15_y_y) (fun (r : TX1_y) => True)) (hm15 : (6 : Int) - v15_l3.toInt < ((N15 + 1 : Nat) : Int)) (h_v15_l3 : R32 (0) (5) v15_l3) : TotP (f_X1_note_J40 k15_ v15_l3 v40_y_y) (fun (r : TX1_y) => True) := by
  unfold f_X1_note_J40
  exact hk15 _ _ (r_w (l' := 0) (h' := 6) (r_add (l := 1) (h := 6) h_v15_l3 (r_n (x := (1 : Int32)) (l := 1) (h := 1) (by decide) (by decide)) (by decide) (by decide) (by decide) (by decide)) (by decide) (by decide)) (ms_up (y := (1 : Int32)) h_v15_l3 (by decide) (by decide) (by decide) hm15)
theorem t_f_X1_note_L15 {k1 : Int32} {k2 : Int32} (h_k1 : R32 (0) (63) k1) (h_k2 : R32 (1) (60) k2) : ∀ (n : Nat) (v15_l3 : Int32) (v15_y_y : TX1_y), R32 (0) (6) v15_l3 → (6 : Int) - v15_l3.toInt < (n : Int) → TotP (f_X1_note_L15 k1 k2 n v15_l3 v15_y_y) (fun (r : TX1_y) => True) := by
  intro n
  induction n with
  | zero =>
    intro v15_l3 v15_y_y h_v15_l3 hm
    exact (ms_0u h_v15_l3 hm).elim
  | succ n ih =>
    intro v15_l3 v15_y_y h_v15_l3 hm
    rw [f_X1_note_L15]
    refine tp_if (fun c1 => ?_) (fun c1 => ?_)
    · skip
      have r2 : R32 (6) (6) v15_l3 := r_le2 (r_n (x := (6 : Int32)) (l := 6) (h := 6) (by decide) (by decide)) h_v15_l3 c1
      exact tp_s trivial
    · skip
      have r3 : R32 (0) (5) v15_l3 := r_nle2 (by decide) (r_n (x := (6 : Int32)) (l := 6) (h := 6) (by decide) (by decide)) h_v15_l3 c1
      refine tp_if (fun c4 => ?_) (fun c4 => ?_)
      · skip
        have r5 : R32 (1) (1) ((k1 >>> (v15_l3 &&& (31 : Int32))) &&& (1 : Int32)) := r_eq1 (l := 1) (h := 1) (by decide) (by decide) r_and1 (r_n (x := (1 : Int32)) (l := 1) (h := 1) (by decide) (by decide)) c4
        refine tp_g r3 (by decide) (by decide) ?_
        exact t_f_X1_note_J40 ih hm r3
      · skip
        have r6 : R32 (0) (0) ((k1 >>> (v15_l3 &&& (31 : Int32))) &&& (1 : Int32)) := r_neH (by decide) r_and1 (r_n (x := (1 : Int32)) (l := 1) (h := 1) (by decide) (by decide)) c4
        exact t_f_X1_note_J40 ih hm r3
theorem t_f_X1_note {k1 : Int32} {k2 : Int32} {y_y : TX1_y} (h_k1 : R32 (0) (63) k1) (h_k2 : R32 (1) (60) k2) : TotP (f_X1_note k1 k2 y_y) (fun (r : TX1_y) => True) := by
  unfold f_X1_note
  refine tp_n0 (fun o6 => ?_)
  exact t_f_X1_note_L15 h_k1 h_k2 FU _ _ (r_w (l' := 0) (h' := 6) (r_n (x := (0 : Int32)) (l := 0) (h := 0) (by decide) (by decide)) (by decide) (by decide)) (fu_up (r_w (l' := 0) (h' := 6) (r_n (x := (0 : Int32)) (l := 0) (h := 0) (by decide) (by decide)) (by decide) (by decide)) (by decide))
theorem t_f_X1_forecast_L56 {k4 : Int32} {p_p : TX6_p} {n_n : TX4_n} (h_k4 : R32 (0) (60) k4) (h_p_p_1 : R32 (1) (8) p_p.1) (h_p_p_2_1 : R32 (0) (9) p_p.2.1) (h_p_p_2_2_2_2_1 : R32 (0) (4) p_p.2.2.2.2.1) (h_p_p_2_2_2_2_2_1 : R32 (0) (5) p_p.2.2.2.2.2.1) (h_p_p_2_2_2_2_2_2_1 : R32 (0) (6) p_p.2.2.2.2.2.2.1) (h_p_p_2_2_2_2_2_2_2_1 : R32 (0) (6) p_p.2.2.2.2.2.2.2.1) : ∀ (n : Nat) (v56_l5 : Int32) (v56_y_y : TX1_y) (v56_n2_n : TX4_n), R32 (1) (61) v56_l5 → (61 : Int) - v56_l5.toInt < (n : Int) → TotP (f_X1_forecast_L56 k4 p_p n_n n v56_l5 v56_y_y v56_n2_n) (fun (r : TX1_y × TX4_n) => True) := by
  intro n
  induction n with
  | zero =>
    intro v56_l5 v56_y_y v56_n2_n h_v56_l5 hm
    exact (ms_0u h_v56_l5 hm).elim
  | succ n ih =>
    intro v56_l5 v56_y_y v56_n2_n h_v56_l5 hm
    rw [f_X1_forecast_L56]
    refine tp_if (fun c1 => ?_) (fun c1 => ?_)
    · skip
      exact tp_s trivial
    · skip
      have r2 : R32 (1) (60) k4 := r_nlt1 h_k4 h_v56_l5 c1
      have r3 : R32 (1) (60) v56_l5 := r_nlt2 h_k4 h_v56_l5 c1
      refine tp_e (f_X4_letDownAs.eq_1 _ _) ?_
      refine tp_nl ?_
      refine tp_b (t_f_X1_pass h_p_p_1 h_p_p_2_1 h_p_p_2_2_2_2_1 h_p_p_2_2_2_2_2_1 h_p_p_2_2_2_2_2_2_1 h_p_p_2_2_2_2_2_2_2_1) (fun o78 h4 => ?_)
      refine tp_b (t_f_X1_note h4 r3) (fun o83 h5 => ?_)
      exact ih _ _ _ (r_w (l' := 1) (h' := 61) (r_add (l := 2) (h := 61) r3 (r_n (x := (1 : Int32)) (l := 1) (h := 1) (by decide) (by decide)) (by decide) (by decide) (by decide) (by decide)) (by decide) (by decide)) (ms_up (y := (1 : Int32)) r3 (by decide) (by decide) (by decide) hm)
theorem t_f_X1_forecast_L29 {k3 : Int32} {k4 : Int32} {p_p : TX6_p} {n_n : TX4_n} {o5 : TX4_n} (h_k3 : R32 (0) (65536) k3) (h_k4 : R32 (0) (60) k4) (h_p_p_1 : R32 (1) (8) p_p.1) (h_p_p_2_1 : R32 (0) (9) p_p.2.1) (h_p_p_2_2_2_2_1 : R32 (0) (4) p_p.2.2.2.2.1) (h_p_p_2_2_2_2_2_1 : R32 (0) (5) p_p.2.2.2.2.2.1) (h_p_p_2_2_2_2_2_2_1 : R32 (0) (6) p_p.2.2.2.2.2.2.1) (h_p_p_2_2_2_2_2_2_2_1 : R32 (0) (6) p_p.2.2.2.2.2.2.2.1) : ∀ (n : Nat) (v29_l5 : Int32) (v29_y_y : TX1_y), R32 (0) (6) v29_l5 → R32 (0) (0) v29_y_y.1 → R32 (0) (0) v29_y_y.2.1 → (6 : Int) - v29_l5.toInt < (n : Int) → TotP (f_X1_forecast_L29 k3 k4 p_p n_n o5 n v29_l5 v29_y_y) (fun (r : TX1_y × TX4_n) => True) := by
  intro n
  induction n with
  | zero =>
    intro v29_l5 v29_y_y h_v29_l5 h_v29_y_y_1 h_v29_y_y_2_1 hm
    exact (ms_0u h_v29_l5 hm).elim
  | succ n ih =>
    intro v29_l5 v29_y_y h_v29_l5 h_v29_y_y_1 h_v29_y_y_2_1 hm
    rw [f_X1_forecast_L29]
    refine tp_if (fun c1 => ?_) (fun c1 => ?_)
    · skip
      have r2 : R32 (6) (6) v29_l5 := r_le2 (r_n (x := (6 : Int32)) (l := 6) (h := 6) (by decide) (by decide)) h_v29_l5 c1
      exact t_f_X1_forecast_L56 h_k4 h_p_p_1 h_p_p_2_1 h_p_p_2_2_2_2_1 h_p_p_2_2_2_2_2_1 h_p_p_2_2_2_2_2_2_1 h_p_p_2_2_2_2_2_2_2_1 FU _ _ _ (r_w (l' := 1) (h' := 61) (r_n (x := (1 : Int32)) (l := 1) (h := 1) (by decide) (by decide)) (by decide) (by decide)) (fu_up (r_w (l' := 1) (h' := 61) (r_n (x := (1 : Int32)) (l := 1) (h := 1) (by decide) (by decide)) (by decide) (by decide)) (by decide))
    · skip
      have r3 : R32 (0) (5) v29_l5 := r_nle2 (by decide) (r_n (x := (6 : Int32)) (l := 6) (h := 6) (by decide) (by decide)) h_v29_l5 c1
      refine tp_g r3 (by decide) (by decide) ?_
      exact ih _ _ (r_w (l' := 0) (h' := 6) (r_add (l := 1) (h := 6) r3 (r_n (x := (1 : Int32)) (l := 1) (h := 1) (by decide) (by decide)) (by decide) (by decide) (by decide) (by decide)) (by decide) (by decide)) h_v29_y_y_1 h_v29_y_y_2_1 (ms_up (y := (1 : Int32)) r3 (by decide) (by decide) (by decide) hm)
theorem t_f_X1_forecast {k3 : Int32} {k4 : Int32} {y_y : TX1_y} {p_p : TX6_p} {n_n : TX4_n} {n2_n : TX4_n} (h_k3 : R32 (0) (65536) k3) (h_k4 : R32 (0) (60) k4) (h_p_p_1 : R32 (1) (8) p_p.1) (h_p_p_2_1 : R32 (0) (9) p_p.2.1) (h_p_p_2_2_2_2_1 : R32 (0) (4) p_p.2.2.2.2.1) (h_p_p_2_2_2_2_2_1 : R32 (0) (5) p_p.2.2.2.2.2.1) (h_p_p_2_2_2_2_2_2_1 : R32 (0) (6) p_p.2.2.2.2.2.2.1) (h_p_p_2_2_2_2_2_2_2_1 : R32 (0) (6) p_p.2.2.2.2.2.2.2.1) : TotP (f_X1_forecast k3 k4 y_y p_p n_n n2_n) (fun (r : TX1_y × TX4_n) => True) := by
  unfold f_X1_forecast
  refine tp_e (f_X4_become.eq_1 _ _) ?_
  refine tp_nn ?_
  refine tp_e (f_X4_letDownAs.eq_1 _ _) ?_
  refine tp_nl ?_
  refine tp_nl ?_
  exact t_f_X1_forecast_L29 h_k3 h_k4 h_p_p_1 h_p_p_2_1 h_p_p_2_2_2_2_1 h_p_p_2_2_2_2_2_1 h_p_p_2_2_2_2_2_2_1 h_p_p_2_2_2_2_2_2_2_1 FU _ _ (r_w (l' := 0) (h' := 6) (r_n (x := (0 : Int32)) (l := 0) (h := 0) (by decide) (by decide)) (by decide) (by decide)) (r_n (x := (0 : Int32)) (l := 0) (h := 0) (by decide) (by decide)) (r_n (x := (0 : Int32)) (l := 0) (h := 0) (by decide) (by decide)) (fu_up (r_w (l' := 0) (h' := 6) (r_n (x := (0 : Int32)) (l := 0) (h := 0) (by decide) (by decide)) (by decide) (by decide)) (by decide))
theorem t_f_X10_landed {k1 : Int32} {k2 : Int32} {x_x : TX10_x} {p_p : TX6_p} {n_n : TX4_n} {y_y : TX1_y} {n2_n : TX4_n} (h_p_p_1 : R32 (0) (8) p_p.1) (h_p_p_2_1 : R32 (0) (9) p_p.2.1) (h_p_p_2_2_2_2_1 : R32 (0) (4) p_p.2.2.2.2.1) (h_p_p_2_2_2_2_2_1 : R32 (0) (5) p_p.2.2.2.2.2.1) (h_p_p_2_2_2_2_2_2_1 : R32 (0) (6) p_p.2.2.2.2.2.2.1) (h_p_p_2_2_2_2_2_2_2_1 : R32 (0) (6) p_p.2.2.2.2.2.2.2.1) : TotP (f_X10_landed k1 k2 x_x p_p n_n y_y n2_n) (fun (r : Int32 × TX10_x × TX1_y × TX4_n) => R32 (0) (2) r.2.1.1) := by
  unfold f_X10_landed
  refine tp_e (f_X10_isForecast.eq_1 _ _) ?_
  refine tp_nn ?_
  refine tp_e (f_X10_within.eq_1 _ _ _) ?_
  refine tp_nif (fun c1 => ?_) (fun c1 => ?_)
  · skip
    have r2 : R32 (-2147483648) (-1) k1 := r_lt1 (by decide) (r_top _) (r_n (x := (0 : Int32)) (l := 0) (h := 0) (by decide) (by decide)) c1
    refine tp_nl ?_
    refine tp_nift (d_eq (r_n (x := (0 : Int32)) (l := 0) (h := 0) (by decide) (by decide)) (r_n (x := (0 : Int32)) (l := 0) (h := 0) (by decide) (by decide))) ?_
    refine tp_nl ?_
    refine tp_e (f_X10_numberTrouble.eq_1 _ _) ?_
    refine tp_nn ?_
    refine tp_e (f_X10_pierTrouble.eq_1 _) ?_
    refine tp_nif (fun c3 => ?_) (fun c3 => ?_)
    · skip
      have r4 : R32 (0) (0) p_p.1 := r_eq1 (l := 0) (h := 0) (by decide) (by decide) h_p_p_1 (r_n (x := (0 : Int32)) (l := 0) (h := 0) (by decide) (by decide)) c3
      refine tp_nl ?_
      refine tp_niff (d_ne2 (r_n (x := (1 : Int32)) (l := 1) (h := 1) (by decide) (by decide)) (r_n (x := (0 : Int32)) (l := 0) (h := 0) (by decide) (by decide)) (by decide)) ?_
      refine tp_e (f_X10_numberTrouble_J17.eq_1 _) ?_
      refine tp_nl ?_
      refine tp_e (f_X10_refused.eq_1 _ _) ?_
      refine tp_niff (d_ne2 (r_n (x := (1 : Int32)) (l := 1) (h := 1) (by decide) (by decide)) (r_n (x := (0 : Int32)) (l := 0) (h := 0) (by decide) (by decide)) (by decide)) ?_
      refine tp_nl ?_
      refine tp_iff (d_ne2 (r_n (x := (1 : Int32)) (l := 1) (h := 1) (by decide) (by decide)) (r_n (x := (0 : Int32)) (l := 0) (h := 0) (by decide) (by decide)) (by decide)) ?_
      exact tp_s (r_w (l' := 0) (h' := 2) (r_n (x := (1 : Int32)) (l := 1) (h := 1) (by decide) (by decide)) (by decide) (by decide))
    · skip
      have r5 : R32 (1) (8) p_p.1 := r_neL (by decide) h_p_p_1 (r_n (x := (0 : Int32)) (l := 0) (h := 0) (by decide) (by decide)) c3
      refine tp_nl ?_
      refine tp_nift (d_eq (r_n (x := (0 : Int32)) (l := 0) (h := 0) (by decide) (by decide)) (r_n (x := (0 : Int32)) (l := 0) (h := 0) (by decide) (by decide))) ?_
      refine tp_nift (d_eq (r_n (x := (0 : Int32)) (l := 0) (h := 0) (by decide) (by decide)) (r_n (x := (0 : Int32)) (l := 0) (h := 0) (by decide) (by decide))) ?_
      refine tp_nl ?_
      refine tp_e (f_X10_refused.eq_1 _ _) ?_
      refine tp_niff (d_ne2 (r_n (x := (2 : Int32)) (l := 2) (h := 2) (by decide) (by decide)) (r_n (x := (0 : Int32)) (l := 0) (h := 0) (by decide) (by decide)) (by decide)) ?_
      refine tp_nl ?_
      refine tp_iff (d_ne2 (r_n (x := (1 : Int32)) (l := 1) (h := 1) (by decide) (by decide)) (r_n (x := (0 : Int32)) (l := 0) (h := 0) (by decide) (by decide)) (by decide)) ?_
      exact tp_s (r_w (l' := 0) (h' := 2) (r_n (x := (2 : Int32)) (l := 2) (h := 2) (by decide) (by decide)) (by decide) (by decide))
  · skip
    have r6 : R32 (0) (2147483647) k1 := r_nlt1 (r_top _) (r_n (x := (0 : Int32)) (l := 0) (h := 0) (by decide) (by decide)) c1
    refine tp_nif (fun c7 => ?_) (fun c7 => ?_)
    · skip
      have r8 : R32 (65537) (2147483647) k1 := r_lt2 (by decide) (r_n (x := (65536 : Int32)) (l := 65536) (h := 65536) (by decide) (by decide)) r6 c7
      refine tp_nl ?_
      refine tp_nift (d_eq (r_n (x := (0 : Int32)) (l := 0) (h := 0) (by decide) (by decide)) (r_n (x := (0 : Int32)) (l := 0) (h := 0) (by decide) (by decide))) ?_
      refine tp_nl ?_
      refine tp_e (f_X10_numberTrouble.eq_1 _ _) ?_
      refine tp_nn ?_
      refine tp_e (f_X10_pierTrouble.eq_1 _) ?_
      refine tp_nif (fun c9 => ?_) (fun c9 => ?_)
      · skip
        have r10 : R32 (0) (0) p_p.1 := r_eq1 (l := 0) (h := 0) (by decide) (by decide) h_p_p_1 (r_n (x := (0 : Int32)) (l := 0) (h := 0) (by decide) (by decide)) c9
        refine tp_nl ?_
        refine tp_niff (d_ne2 (r_n (x := (1 : Int32)) (l := 1) (h := 1) (by decide) (by decide)) (r_n (x := (0 : Int32)) (l := 0) (h := 0) (by decide) (by decide)) (by decide)) ?_
        refine tp_e (f_X10_numberTrouble_J17.eq_1 _) ?_
        refine tp_nl ?_
        refine tp_e (f_X10_refused.eq_1 _ _) ?_
        refine tp_niff (d_ne2 (r_n (x := (1 : Int32)) (l := 1) (h := 1) (by decide) (by decide)) (r_n (x := (0 : Int32)) (l := 0) (h := 0) (by decide) (by decide)) (by decide)) ?_
        refine tp_nl ?_
        refine tp_iff (d_ne2 (r_n (x := (1 : Int32)) (l := 1) (h := 1) (by decide) (by decide)) (r_n (x := (0 : Int32)) (l := 0) (h := 0) (by decide) (by decide)) (by decide)) ?_
        exact tp_s (r_w (l' := 0) (h' := 2) (r_n (x := (1 : Int32)) (l := 1) (h := 1) (by decide) (by decide)) (by decide) (by decide))
      · skip
        have r11 : R32 (1) (8) p_p.1 := r_neL (by decide) h_p_p_1 (r_n (x := (0 : Int32)) (l := 0) (h := 0) (by decide) (by decide)) c9
        refine tp_nl ?_
        refine tp_nift (d_eq (r_n (x := (0 : Int32)) (l := 0) (h := 0) (by decide) (by decide)) (r_n (x := (0 : Int32)) (l := 0) (h := 0) (by decide) (by decide))) ?_
        refine tp_nift (d_eq (r_n (x := (0 : Int32)) (l := 0) (h := 0) (by decide) (by decide)) (r_n (x := (0 : Int32)) (l := 0) (h := 0) (by decide) (by decide))) ?_
        refine tp_nl ?_
        refine tp_e (f_X10_refused.eq_1 _ _) ?_
        refine tp_niff (d_ne2 (r_n (x := (2 : Int32)) (l := 2) (h := 2) (by decide) (by decide)) (r_n (x := (0 : Int32)) (l := 0) (h := 0) (by decide) (by decide)) (by decide)) ?_
        refine tp_nl ?_
        refine tp_iff (d_ne2 (r_n (x := (1 : Int32)) (l := 1) (h := 1) (by decide) (by decide)) (r_n (x := (0 : Int32)) (l := 0) (h := 0) (by decide) (by decide)) (by decide)) ?_
        exact tp_s (r_w (l' := 0) (h' := 2) (r_n (x := (2 : Int32)) (l := 2) (h := 2) (by decide) (by decide)) (by decide) (by decide))
    · skip
      have r12 : R32 (0) (65536) k1 := r_nlt2 (r_n (x := (65536 : Int32)) (l := 65536) (h := 65536) (by decide) (by decide)) r6 c7
      refine tp_nl ?_
      refine tp_niff (d_ne2 (r_n (x := (1 : Int32)) (l := 1) (h := 1) (by decide) (by decide)) (r_n (x := (0 : Int32)) (l := 0) (h := 0) (by decide) (by decide)) (by decide)) ?_
      refine tp_nn ?_
      refine tp_e (f_X10_within.eq_1 _ _ _) ?_
      refine tp_nif (fun c13 => ?_) (fun c13 => ?_)
      · skip
        have r14 : R32 (-2147483648) (-1) k2 := r_lt1 (by decide) (r_top _) (r_n (x := (0 : Int32)) (l := 0) (h := 0) (by decide) (by decide)) c13
        refine tp_nl ?_
        refine tp_nift (d_eq (r_n (x := (0 : Int32)) (l := 0) (h := 0) (by decide) (by decide)) (r_n (x := (0 : Int32)) (l := 0) (h := 0) (by decide) (by decide))) ?_
        refine tp_nl ?_
        refine tp_e (f_X10_numberTrouble.eq_1 _ _) ?_
        refine tp_nn ?_
        refine tp_e (f_X10_pierTrouble.eq_1 _) ?_
        refine tp_nif (fun c15 => ?_) (fun c15 => ?_)
        · skip
          have r16 : R32 (0) (0) p_p.1 := r_eq1 (l := 0) (h := 0) (by decide) (by decide) h_p_p_1 (r_n (x := (0 : Int32)) (l := 0) (h := 0) (by decide) (by decide)) c15
          refine tp_nl ?_
          refine tp_niff (d_ne2 (r_n (x := (1 : Int32)) (l := 1) (h := 1) (by decide) (by decide)) (r_n (x := (0 : Int32)) (l := 0) (h := 0) (by decide) (by decide)) (by decide)) ?_
          refine tp_e (f_X10_numberTrouble_J17.eq_1 _) ?_
          refine tp_nl ?_
          refine tp_e (f_X10_refused.eq_1 _ _) ?_
          refine tp_niff (d_ne2 (r_n (x := (1 : Int32)) (l := 1) (h := 1) (by decide) (by decide)) (r_n (x := (0 : Int32)) (l := 0) (h := 0) (by decide) (by decide)) (by decide)) ?_
          refine tp_nl ?_
          refine tp_iff (d_ne2 (r_n (x := (1 : Int32)) (l := 1) (h := 1) (by decide) (by decide)) (r_n (x := (0 : Int32)) (l := 0) (h := 0) (by decide) (by decide)) (by decide)) ?_
          exact tp_s (r_w (l' := 0) (h' := 2) (r_n (x := (1 : Int32)) (l := 1) (h := 1) (by decide) (by decide)) (by decide) (by decide))
        · skip
          have r17 : R32 (1) (8) p_p.1 := r_neL (by decide) h_p_p_1 (r_n (x := (0 : Int32)) (l := 0) (h := 0) (by decide) (by decide)) c15
          refine tp_nl ?_
          refine tp_nift (d_eq (r_n (x := (0 : Int32)) (l := 0) (h := 0) (by decide) (by decide)) (r_n (x := (0 : Int32)) (l := 0) (h := 0) (by decide) (by decide))) ?_
          refine tp_nift (d_eq (r_n (x := (0 : Int32)) (l := 0) (h := 0) (by decide) (by decide)) (r_n (x := (0 : Int32)) (l := 0) (h := 0) (by decide) (by decide))) ?_
          refine tp_nl ?_
          refine tp_e (f_X10_refused.eq_1 _ _) ?_
          refine tp_niff (d_ne2 (r_n (x := (2 : Int32)) (l := 2) (h := 2) (by decide) (by decide)) (r_n (x := (0 : Int32)) (l := 0) (h := 0) (by decide) (by decide)) (by decide)) ?_
          refine tp_nl ?_
          refine tp_iff (d_ne2 (r_n (x := (1 : Int32)) (l := 1) (h := 1) (by decide) (by decide)) (r_n (x := (0 : Int32)) (l := 0) (h := 0) (by decide) (by decide)) (by decide)) ?_
          exact tp_s (r_w (l' := 0) (h' := 2) (r_n (x := (2 : Int32)) (l := 2) (h := 2) (by decide) (by decide)) (by decide) (by decide))
      · skip
        have r18 : R32 (0) (2147483647) k2 := r_nlt1 (r_top _) (r_n (x := (0 : Int32)) (l := 0) (h := 0) (by decide) (by decide)) c13
        refine tp_nif (fun c19 => ?_) (fun c19 => ?_)
        · skip
          have r20 : R32 (61) (2147483647) k2 := r_lt2 (by decide) (r_n (x := (60 : Int32)) (l := 60) (h := 60) (by decide) (by decide)) r18 c19
          refine tp_nl ?_
          refine tp_nift (d_eq (r_n (x := (0 : Int32)) (l := 0) (h := 0) (by decide) (by decide)) (r_n (x := (0 : Int32)) (l := 0) (h := 0) (by decide) (by decide))) ?_
          refine tp_nl ?_
          refine tp_e (f_X10_numberTrouble.eq_1 _ _) ?_
          refine tp_nn ?_
          refine tp_e (f_X10_pierTrouble.eq_1 _) ?_
          refine tp_nif (fun c21 => ?_) (fun c21 => ?_)
          · skip
            have r22 : R32 (0) (0) p_p.1 := r_eq1 (l := 0) (h := 0) (by decide) (by decide) h_p_p_1 (r_n (x := (0 : Int32)) (l := 0) (h := 0) (by decide) (by decide)) c21
            refine tp_nl ?_
            refine tp_niff (d_ne2 (r_n (x := (1 : Int32)) (l := 1) (h := 1) (by decide) (by decide)) (r_n (x := (0 : Int32)) (l := 0) (h := 0) (by decide) (by decide)) (by decide)) ?_
            refine tp_e (f_X10_numberTrouble_J17.eq_1 _) ?_
            refine tp_nl ?_
            refine tp_e (f_X10_refused.eq_1 _ _) ?_
            refine tp_niff (d_ne2 (r_n (x := (1 : Int32)) (l := 1) (h := 1) (by decide) (by decide)) (r_n (x := (0 : Int32)) (l := 0) (h := 0) (by decide) (by decide)) (by decide)) ?_
            refine tp_nl ?_
            refine tp_iff (d_ne2 (r_n (x := (1 : Int32)) (l := 1) (h := 1) (by decide) (by decide)) (r_n (x := (0 : Int32)) (l := 0) (h := 0) (by decide) (by decide)) (by decide)) ?_
            exact tp_s (r_w (l' := 0) (h' := 2) (r_n (x := (1 : Int32)) (l := 1) (h := 1) (by decide) (by decide)) (by decide) (by decide))
          · skip
            have r23 : R32 (1) (8) p_p.1 := r_neL (by decide) h_p_p_1 (r_n (x := (0 : Int32)) (l := 0) (h := 0) (by decide) (by decide)) c21
            refine tp_nl ?_
            refine tp_nift (d_eq (r_n (x := (0 : Int32)) (l := 0) (h := 0) (by decide) (by decide)) (r_n (x := (0 : Int32)) (l := 0) (h := 0) (by decide) (by decide))) ?_
            refine tp_nift (d_eq (r_n (x := (0 : Int32)) (l := 0) (h := 0) (by decide) (by decide)) (r_n (x := (0 : Int32)) (l := 0) (h := 0) (by decide) (by decide))) ?_
            refine tp_nl ?_
            refine tp_e (f_X10_refused.eq_1 _ _) ?_
            refine tp_niff (d_ne2 (r_n (x := (2 : Int32)) (l := 2) (h := 2) (by decide) (by decide)) (r_n (x := (0 : Int32)) (l := 0) (h := 0) (by decide) (by decide)) (by decide)) ?_
            refine tp_nl ?_
            refine tp_iff (d_ne2 (r_n (x := (1 : Int32)) (l := 1) (h := 1) (by decide) (by decide)) (r_n (x := (0 : Int32)) (l := 0) (h := 0) (by decide) (by decide)) (by decide)) ?_
            exact tp_s (r_w (l' := 0) (h' := 2) (r_n (x := (2 : Int32)) (l := 2) (h := 2) (by decide) (by decide)) (by decide) (by decide))
        · skip
          have r24 : R32 (0) (60) k2 := r_nlt2 (r_n (x := (60 : Int32)) (l := 60) (h := 60) (by decide) (by decide)) r18 c19
          refine tp_nl ?_
          refine tp_niff (d_ne2 (r_n (x := (1 : Int32)) (l := 1) (h := 1) (by decide) (by decide)) (r_n (x := (0 : Int32)) (l := 0) (h := 0) (by decide) (by decide)) (by decide)) ?_
          refine tp_nl ?_
          refine tp_e (f_X10_numberTrouble.eq_1 _ _) ?_
          refine tp_nn ?_
          refine tp_e (f_X10_pierTrouble.eq_1 _) ?_
          refine tp_nif (fun c25 => ?_) (fun c25 => ?_)
          · skip
            have r26 : R32 (0) (0) p_p.1 := r_eq1 (l := 0) (h := 0) (by decide) (by decide) h_p_p_1 (r_n (x := (0 : Int32)) (l := 0) (h := 0) (by decide) (by decide)) c25
            refine tp_nl ?_
            refine tp_niff (d_ne2 (r_n (x := (1 : Int32)) (l := 1) (h := 1) (by decide) (by decide)) (r_n (x := (0 : Int32)) (l := 0) (h := 0) (by decide) (by decide)) (by decide)) ?_
            refine tp_e (f_X10_numberTrouble_J17.eq_1 _) ?_
            refine tp_nl ?_
            refine tp_e (f_X10_refused.eq_1 _ _) ?_
            refine tp_niff (d_ne2 (r_n (x := (1 : Int32)) (l := 1) (h := 1) (by decide) (by decide)) (r_n (x := (0 : Int32)) (l := 0) (h := 0) (by decide) (by decide)) (by decide)) ?_
            refine tp_nl ?_
            refine tp_iff (d_ne2 (r_n (x := (1 : Int32)) (l := 1) (h := 1) (by decide) (by decide)) (r_n (x := (0 : Int32)) (l := 0) (h := 0) (by decide) (by decide)) (by decide)) ?_
            exact tp_s (r_w (l' := 0) (h' := 2) (r_n (x := (1 : Int32)) (l := 1) (h := 1) (by decide) (by decide)) (by decide) (by decide))
          · skip
            have r27 : R32 (1) (8) p_p.1 := r_neL (by decide) h_p_p_1 (r_n (x := (0 : Int32)) (l := 0) (h := 0) (by decide) (by decide)) c25
            refine tp_nl ?_
            refine tp_nift (d_eq (r_n (x := (0 : Int32)) (l := 0) (h := 0) (by decide) (by decide)) (r_n (x := (0 : Int32)) (l := 0) (h := 0) (by decide) (by decide))) ?_
            refine tp_niff (d_ne2 (r_n (x := (1 : Int32)) (l := 1) (h := 1) (by decide) (by decide)) (r_n (x := (0 : Int32)) (l := 0) (h := 0) (by decide) (by decide)) (by decide)) ?_
            refine tp_e (f_X10_numberTrouble_J17.eq_1 _) ?_
            refine tp_nl ?_
            refine tp_e (f_X10_refused.eq_1 _ _) ?_
            refine tp_nift (d_eq (r_n (x := (0 : Int32)) (l := 0) (h := 0) (by decide) (by decide)) (r_n (x := (0 : Int32)) (l := 0) (h := 0) (by decide) (by decide))) ?_
            refine tp_nl ?_
            refine tp_ift (d_eq (r_n (x := (0 : Int32)) (l := 0) (h := 0) (by decide) (by decide)) (r_n (x := (0 : Int32)) (l := 0) (h := 0) (by decide) (by decide))) ?_
            refine tp_b (t_f_X1_forecast r12 r24 r27 h_p_p_2_1 h_p_p_2_2_2_2_1 h_p_p_2_2_2_2_2_1 h_p_p_2_2_2_2_2_2_1 h_p_p_2_2_2_2_2_2_2_1) (fun o32 h28 => ?_)
            exact tp_s (r_w (l' := 0) (h' := 2) (r_n (x := (0 : Int32)) (l := 0) (h := 0) (by decide) (by decide)) (by decide) (by decide))
theorem t_f_X10_landedIn {k1 : Int32} {k2 : Int32} {k3 : Int32} {x_x : TX10_x} {p_p : TX6_p} {n_n : TX4_n} {y_y : TX1_y} {n2_n : TX4_n} (h_p_p_1 : R32 (0) (8) p_p.1) (h_p_p_2_1 : R32 (0) (9) p_p.2.1) (h_p_p_2_2_2_2_1 : R32 (0) (4) p_p.2.2.2.2.1) (h_p_p_2_2_2_2_2_1 : R32 (0) (5) p_p.2.2.2.2.2.1) (h_p_p_2_2_2_2_2_2_1 : R32 (0) (6) p_p.2.2.2.2.2.2.1) (h_p_p_2_2_2_2_2_2_2_1 : R32 (0) (6) p_p.2.2.2.2.2.2.2.1) : TotP (f_X10_landedIn k1 k2 k3 x_x p_p n_n y_y n2_n) (fun (r : Int32 × TX10_x × TX1_y × TX4_n) => R32 (0) (2) r.2.1.1) := by
  unfold f_X10_landedIn
  refine tp_e (f_X10_answerTrouble.eq_1 _ _) ?_
  refine tp_nn ?_
  refine tp_e (f_X6_hasAnswer.eq_1 _ _) ?_
  refine tp_nn ?_
  refine tp_e (f_X10_within.eq_1 _ _ _) ?_
  refine tp_nif (fun c1 => ?_) (fun c1 => ?_)
  · skip
    have r2 : R32 (-2147483648) (-1) k1 := r_lt1 (by decide) (r_top _) (r_n (x := (0 : Int32)) (l := 0) (h := 0) (by decide) (by decide)) c1
    refine tp_nl ?_
    refine tp_nl ?_
    refine tp_nift (d_eq (r_n (x := (0 : Int32)) (l := 0) (h := 0) (by decide) (by decide)) (r_n (x := (0 : Int32)) (l := 0) (h := 0) (by decide) (by decide))) ?_
    refine tp_nl ?_
    refine tp_iff (d_ne2 (r_n (x := (1 : Int32)) (l := 1) (h := 1) (by decide) (by decide)) (r_n (x := (0 : Int32)) (l := 0) (h := 0) (by decide) (by decide)) (by decide)) ?_
    refine tp_u (f_X10_landedIn_J27.eq_1 _ _ _ _ _ _ _ _ _) ?_
    refine tp_e (f_X10_refused.eq_1 _ _) ?_
    refine tp_niff (d_ne2 (r_n (x := (1 : Int32)) (l := 1) (h := 1) (by decide) (by decide)) (r_n (x := (0 : Int32)) (l := 0) (h := 0) (by decide) (by decide)) (by decide)) ?_
    refine tp_nl ?_
    refine tp_iff (d_ne2 (r_n (x := (1 : Int32)) (l := 1) (h := 1) (by decide) (by decide)) (r_n (x := (0 : Int32)) (l := 0) (h := 0) (by decide) (by decide)) (by decide)) ?_
    exact tp_s (r_w (l' := 0) (h' := 2) (r_n (x := (1 : Int32)) (l := 1) (h := 1) (by decide) (by decide)) (by decide) (by decide))
  · skip
    have r3 : R32 (0) (2147483647) k1 := r_nlt1 (r_top _) (r_n (x := (0 : Int32)) (l := 0) (h := 0) (by decide) (by decide)) c1
    refine tp_nif (fun c4 => ?_) (fun c4 => ?_)
    · skip
      refine tp_nl ?_
      refine tp_nl ?_
      refine tp_nift (d_eq (r_n (x := (0 : Int32)) (l := 0) (h := 0) (by decide) (by decide)) (r_n (x := (0 : Int32)) (l := 0) (h := 0) (by decide) (by decide))) ?_
      refine tp_nl ?_
      refine tp_iff (d_ne2 (r_n (x := (1 : Int32)) (l := 1) (h := 1) (by decide) (by decide)) (r_n (x := (0 : Int32)) (l := 0) (h := 0) (by decide) (by decide)) (by decide)) ?_
      refine tp_u (f_X10_landedIn_J27.eq_1 _ _ _ _ _ _ _ _ _) ?_
      refine tp_e (f_X10_refused.eq_1 _ _) ?_
      refine tp_niff (d_ne2 (r_n (x := (1 : Int32)) (l := 1) (h := 1) (by decide) (by decide)) (r_n (x := (0 : Int32)) (l := 0) (h := 0) (by decide) (by decide)) (by decide)) ?_
      refine tp_nl ?_
      refine tp_iff (d_ne2 (r_n (x := (1 : Int32)) (l := 1) (h := 1) (by decide) (by decide)) (r_n (x := (0 : Int32)) (l := 0) (h := 0) (by decide) (by decide)) (by decide)) ?_
      exact tp_s (r_w (l' := 0) (h' := 2) (r_n (x := (1 : Int32)) (l := 1) (h := 1) (by decide) (by decide)) (by decide) (by decide))
    · skip
      have r5 : R32 (0) (5) (p_p.2.2.2.2.2.2.1 - (1 : Int32)) := r_nlt1 (r_sub (l := -1) (h := 5) h_p_p_2_2_2_2_2_2_1 (r_n (x := (1 : Int32)) (l := 1) (h := 1) (by decide) (by decide)) (by decide) (by decide) (by decide) (by decide)) r3 c4
      have r6 : R32 (0) (5) k1 := r_nlt2 (r_sub (l := -1) (h := 5) h_p_p_2_2_2_2_2_2_1 (r_n (x := (1 : Int32)) (l := 1) (h := 1) (by decide) (by decide)) (by decide) (by decide) (by decide) (by decide)) r3 c4
      refine tp_nl ?_
      refine tp_nl ?_
      refine tp_niff (d_ne2 (r_n (x := (1 : Int32)) (l := 1) (h := 1) (by decide) (by decide)) (r_n (x := (0 : Int32)) (l := 0) (h := 0) (by decide) (by decide)) (by decide)) ?_
      refine tp_nl ?_
      refine tp_ift (d_eq (r_n (x := (0 : Int32)) (l := 0) (h := 0) (by decide) (by decide)) (r_n (x := (0 : Int32)) (l := 0) (h := 0) (by decide) (by decide))) ?_
      refine tp_e (f_X10_isForecast.eq_1 _ _) ?_
      refine tp_nn ?_
      refine tp_e (f_X10_within.eq_1 _ _ _) ?_
      refine tp_nif (fun c7 => ?_) (fun c7 => ?_)
      · skip
        have r8 : R32 (-2147483648) (-1) k2 := r_lt1 (by decide) (r_top _) (r_n (x := (0 : Int32)) (l := 0) (h := 0) (by decide) (by decide)) c7
        refine tp_nl ?_
        refine tp_nift (d_eq (r_n (x := (0 : Int32)) (l := 0) (h := 0) (by decide) (by decide)) (r_n (x := (0 : Int32)) (l := 0) (h := 0) (by decide) (by decide))) ?_
        refine tp_nl ?_
        refine tp_e (f_X10_numberTrouble.eq_1 _ _) ?_
        refine tp_nn ?_
        refine tp_e (f_X10_pierTrouble.eq_1 _) ?_
        refine tp_nif (fun c9 => ?_) (fun c9 => ?_)
        · skip
          have r10 : R32 (0) (0) p_p.1 := r_eq1 (l := 0) (h := 0) (by decide) (by decide) h_p_p_1 (r_n (x := (0 : Int32)) (l := 0) (h := 0) (by decide) (by decide)) c9
          refine tp_nl ?_
          refine tp_niff (d_ne2 (r_n (x := (1 : Int32)) (l := 1) (h := 1) (by decide) (by decide)) (r_n (x := (0 : Int32)) (l := 0) (h := 0) (by decide) (by decide)) (by decide)) ?_
          refine tp_e (f_X10_numberTrouble_J17.eq_1 _) ?_
          refine tp_nl ?_
          refine tp_u (f_X10_landedIn_J27.eq_1 _ _ _ _ _ _ _ _ _) ?_
          refine tp_e (f_X10_refused.eq_1 _ _) ?_
          refine tp_niff (d_ne2 (r_n (x := (1 : Int32)) (l := 1) (h := 1) (by decide) (by decide)) (r_n (x := (0 : Int32)) (l := 0) (h := 0) (by decide) (by decide)) (by decide)) ?_
          refine tp_nl ?_
          refine tp_iff (d_ne2 (r_n (x := (1 : Int32)) (l := 1) (h := 1) (by decide) (by decide)) (r_n (x := (0 : Int32)) (l := 0) (h := 0) (by decide) (by decide)) (by decide)) ?_
          exact tp_s (r_w (l' := 0) (h' := 2) (r_n (x := (1 : Int32)) (l := 1) (h := 1) (by decide) (by decide)) (by decide) (by decide))
        · skip
          have r11 : R32 (1) (8) p_p.1 := r_neL (by decide) h_p_p_1 (r_n (x := (0 : Int32)) (l := 0) (h := 0) (by decide) (by decide)) c9
          refine tp_nl ?_
          refine tp_nift (d_eq (r_n (x := (0 : Int32)) (l := 0) (h := 0) (by decide) (by decide)) (r_n (x := (0 : Int32)) (l := 0) (h := 0) (by decide) (by decide))) ?_
          refine tp_nift (d_eq (r_n (x := (0 : Int32)) (l := 0) (h := 0) (by decide) (by decide)) (r_n (x := (0 : Int32)) (l := 0) (h := 0) (by decide) (by decide))) ?_
          refine tp_nl ?_
          refine tp_u (f_X10_landedIn_J27.eq_1 _ _ _ _ _ _ _ _ _) ?_
          refine tp_e (f_X10_refused.eq_1 _ _) ?_
          refine tp_niff (d_ne2 (r_n (x := (2 : Int32)) (l := 2) (h := 2) (by decide) (by decide)) (r_n (x := (0 : Int32)) (l := 0) (h := 0) (by decide) (by decide)) (by decide)) ?_
          refine tp_nl ?_
          refine tp_iff (d_ne2 (r_n (x := (1 : Int32)) (l := 1) (h := 1) (by decide) (by decide)) (r_n (x := (0 : Int32)) (l := 0) (h := 0) (by decide) (by decide)) (by decide)) ?_
          exact tp_s (r_w (l' := 0) (h' := 2) (r_n (x := (2 : Int32)) (l := 2) (h := 2) (by decide) (by decide)) (by decide) (by decide))
      · skip
        have r12 : R32 (0) (2147483647) k2 := r_nlt1 (r_top _) (r_n (x := (0 : Int32)) (l := 0) (h := 0) (by decide) (by decide)) c7
        refine tp_nif (fun c13 => ?_) (fun c13 => ?_)
        · skip
          have r14 : R32 (65537) (2147483647) k2 := r_lt2 (by decide) (r_n (x := (65536 : Int32)) (l := 65536) (h := 65536) (by decide) (by decide)) r12 c13
          refine tp_nl ?_
          refine tp_nift (d_eq (r_n (x := (0 : Int32)) (l := 0) (h := 0) (by decide) (by decide)) (r_n (x := (0 : Int32)) (l := 0) (h := 0) (by decide) (by decide))) ?_
          refine tp_nl ?_
          refine tp_e (f_X10_numberTrouble.eq_1 _ _) ?_
          refine tp_nn ?_
          refine tp_e (f_X10_pierTrouble.eq_1 _) ?_
          refine tp_nif (fun c15 => ?_) (fun c15 => ?_)
          · skip
            have r16 : R32 (0) (0) p_p.1 := r_eq1 (l := 0) (h := 0) (by decide) (by decide) h_p_p_1 (r_n (x := (0 : Int32)) (l := 0) (h := 0) (by decide) (by decide)) c15
            refine tp_nl ?_
            refine tp_niff (d_ne2 (r_n (x := (1 : Int32)) (l := 1) (h := 1) (by decide) (by decide)) (r_n (x := (0 : Int32)) (l := 0) (h := 0) (by decide) (by decide)) (by decide)) ?_
            refine tp_e (f_X10_numberTrouble_J17.eq_1 _) ?_
            refine tp_nl ?_
            refine tp_u (f_X10_landedIn_J27.eq_1 _ _ _ _ _ _ _ _ _) ?_
            refine tp_e (f_X10_refused.eq_1 _ _) ?_
            refine tp_niff (d_ne2 (r_n (x := (1 : Int32)) (l := 1) (h := 1) (by decide) (by decide)) (r_n (x := (0 : Int32)) (l := 0) (h := 0) (by decide) (by decide)) (by decide)) ?_
            refine tp_nl ?_
            refine tp_iff (d_ne2 (r_n (x := (1 : Int32)) (l := 1) (h := 1) (by decide) (by decide)) (r_n (x := (0 : Int32)) (l := 0) (h := 0) (by decide) (by decide)) (by decide)) ?_
            exact tp_s (r_w (l' := 0) (h' := 2) (r_n (x := (1 : Int32)) (l := 1) (h := 1) (by decide) (by decide)) (by decide) (by decide))
          · skip
            have r17 : R32 (1) (8) p_p.1 := r_neL (by decide) h_p_p_1 (r_n (x := (0 : Int32)) (l := 0) (h := 0) (by decide) (by decide)) c15
            refine tp_nl ?_
            refine tp_nift (d_eq (r_n (x := (0 : Int32)) (l := 0) (h := 0) (by decide) (by decide)) (r_n (x := (0 : Int32)) (l := 0) (h := 0) (by decide) (by decide))) ?_
            refine tp_nift (d_eq (r_n (x := (0 : Int32)) (l := 0) (h := 0) (by decide) (by decide)) (r_n (x := (0 : Int32)) (l := 0) (h := 0) (by decide) (by decide))) ?_
            refine tp_nl ?_
            refine tp_u (f_X10_landedIn_J27.eq_1 _ _ _ _ _ _ _ _ _) ?_
            refine tp_e (f_X10_refused.eq_1 _ _) ?_
            refine tp_niff (d_ne2 (r_n (x := (2 : Int32)) (l := 2) (h := 2) (by decide) (by decide)) (r_n (x := (0 : Int32)) (l := 0) (h := 0) (by decide) (by decide)) (by decide)) ?_
            refine tp_nl ?_
            refine tp_iff (d_ne2 (r_n (x := (1 : Int32)) (l := 1) (h := 1) (by decide) (by decide)) (r_n (x := (0 : Int32)) (l := 0) (h := 0) (by decide) (by decide)) (by decide)) ?_
            exact tp_s (r_w (l' := 0) (h' := 2) (r_n (x := (2 : Int32)) (l := 2) (h := 2) (by decide) (by decide)) (by decide) (by decide))
        · skip
          have r18 : R32 (0) (65536) k2 := r_nlt2 (r_n (x := (65536 : Int32)) (l := 65536) (h := 65536) (by decide) (by decide)) r12 c13
          refine tp_nl ?_
          refine tp_niff (d_ne2 (r_n (x := (1 : Int32)) (l := 1) (h := 1) (by decide) (by decide)) (r_n (x := (0 : Int32)) (l := 0) (h := 0) (by decide) (by decide)) (by decide)) ?_
          refine tp_nn ?_
          refine tp_e (f_X10_within.eq_1 _ _ _) ?_
          refine tp_nif (fun c19 => ?_) (fun c19 => ?_)
          · skip
            have r20 : R32 (-2147483648) (-1) k3 := r_lt1 (by decide) (r_top _) (r_n (x := (0 : Int32)) (l := 0) (h := 0) (by decide) (by decide)) c19
            refine tp_nl ?_
            refine tp_nift (d_eq (r_n (x := (0 : Int32)) (l := 0) (h := 0) (by decide) (by decide)) (r_n (x := (0 : Int32)) (l := 0) (h := 0) (by decide) (by decide))) ?_
            refine tp_nl ?_
            refine tp_e (f_X10_numberTrouble.eq_1 _ _) ?_
            refine tp_nn ?_
            refine tp_e (f_X10_pierTrouble.eq_1 _) ?_
            refine tp_nif (fun c21 => ?_) (fun c21 => ?_)
            · skip
              have r22 : R32 (0) (0) p_p.1 := r_eq1 (l := 0) (h := 0) (by decide) (by decide) h_p_p_1 (r_n (x := (0 : Int32)) (l := 0) (h := 0) (by decide) (by decide)) c21
              refine tp_nl ?_
              refine tp_niff (d_ne2 (r_n (x := (1 : Int32)) (l := 1) (h := 1) (by decide) (by decide)) (r_n (x := (0 : Int32)) (l := 0) (h := 0) (by decide) (by decide)) (by decide)) ?_
              refine tp_e (f_X10_numberTrouble_J17.eq_1 _) ?_
              refine tp_nl ?_
              refine tp_u (f_X10_landedIn_J27.eq_1 _ _ _ _ _ _ _ _ _) ?_
              refine tp_e (f_X10_refused.eq_1 _ _) ?_
              refine tp_niff (d_ne2 (r_n (x := (1 : Int32)) (l := 1) (h := 1) (by decide) (by decide)) (r_n (x := (0 : Int32)) (l := 0) (h := 0) (by decide) (by decide)) (by decide)) ?_
              refine tp_nl ?_
              refine tp_iff (d_ne2 (r_n (x := (1 : Int32)) (l := 1) (h := 1) (by decide) (by decide)) (r_n (x := (0 : Int32)) (l := 0) (h := 0) (by decide) (by decide)) (by decide)) ?_
              exact tp_s (r_w (l' := 0) (h' := 2) (r_n (x := (1 : Int32)) (l := 1) (h := 1) (by decide) (by decide)) (by decide) (by decide))
            · skip
              have r23 : R32 (1) (8) p_p.1 := r_neL (by decide) h_p_p_1 (r_n (x := (0 : Int32)) (l := 0) (h := 0) (by decide) (by decide)) c21
              refine tp_nl ?_
              refine tp_nift (d_eq (r_n (x := (0 : Int32)) (l := 0) (h := 0) (by decide) (by decide)) (r_n (x := (0 : Int32)) (l := 0) (h := 0) (by decide) (by decide))) ?_
              refine tp_nift (d_eq (r_n (x := (0 : Int32)) (l := 0) (h := 0) (by decide) (by decide)) (r_n (x := (0 : Int32)) (l := 0) (h := 0) (by decide) (by decide))) ?_
              refine tp_nl ?_
              refine tp_u (f_X10_landedIn_J27.eq_1 _ _ _ _ _ _ _ _ _) ?_
              refine tp_e (f_X10_refused.eq_1 _ _) ?_
              refine tp_niff (d_ne2 (r_n (x := (2 : Int32)) (l := 2) (h := 2) (by decide) (by decide)) (r_n (x := (0 : Int32)) (l := 0) (h := 0) (by decide) (by decide)) (by decide)) ?_
              refine tp_nl ?_
              refine tp_iff (d_ne2 (r_n (x := (1 : Int32)) (l := 1) (h := 1) (by decide) (by decide)) (r_n (x := (0 : Int32)) (l := 0) (h := 0) (by decide) (by decide)) (by decide)) ?_
              exact tp_s (r_w (l' := 0) (h' := 2) (r_n (x := (2 : Int32)) (l := 2) (h := 2) (by decide) (by decide)) (by decide) (by decide))
          · skip
            have r24 : R32 (0) (2147483647) k3 := r_nlt1 (r_top _) (r_n (x := (0 : Int32)) (l := 0) (h := 0) (by decide) (by decide)) c19
            refine tp_nif (fun c25 => ?_) (fun c25 => ?_)
            · skip
              have r26 : R32 (61) (2147483647) k3 := r_lt2 (by decide) (r_n (x := (60 : Int32)) (l := 60) (h := 60) (by decide) (by decide)) r24 c25
              refine tp_nl ?_
              refine tp_nift (d_eq (r_n (x := (0 : Int32)) (l := 0) (h := 0) (by decide) (by decide)) (r_n (x := (0 : Int32)) (l := 0) (h := 0) (by decide) (by decide))) ?_
              refine tp_nl ?_
              refine tp_e (f_X10_numberTrouble.eq_1 _ _) ?_
              refine tp_nn ?_
              refine tp_e (f_X10_pierTrouble.eq_1 _) ?_
              refine tp_nif (fun c27 => ?_) (fun c27 => ?_)
              · skip
                have r28 : R32 (0) (0) p_p.1 := r_eq1 (l := 0) (h := 0) (by decide) (by decide) h_p_p_1 (r_n (x := (0 : Int32)) (l := 0) (h := 0) (by decide) (by decide)) c27
                refine tp_nl ?_
                refine tp_niff (d_ne2 (r_n (x := (1 : Int32)) (l := 1) (h := 1) (by decide) (by decide)) (r_n (x := (0 : Int32)) (l := 0) (h := 0) (by decide) (by decide)) (by decide)) ?_
                refine tp_e (f_X10_numberTrouble_J17.eq_1 _) ?_
                refine tp_nl ?_
                refine tp_u (f_X10_landedIn_J27.eq_1 _ _ _ _ _ _ _ _ _) ?_
                refine tp_e (f_X10_refused.eq_1 _ _) ?_
                refine tp_niff (d_ne2 (r_n (x := (1 : Int32)) (l := 1) (h := 1) (by decide) (by decide)) (r_n (x := (0 : Int32)) (l := 0) (h := 0) (by decide) (by decide)) (by decide)) ?_
                refine tp_nl ?_
                refine tp_iff (d_ne2 (r_n (x := (1 : Int32)) (l := 1) (h := 1) (by decide) (by decide)) (r_n (x := (0 : Int32)) (l := 0) (h := 0) (by decide) (by decide)) (by decide)) ?_
                exact tp_s (r_w (l' := 0) (h' := 2) (r_n (x := (1 : Int32)) (l := 1) (h := 1) (by decide) (by decide)) (by decide) (by decide))
              · skip
                have r29 : R32 (1) (8) p_p.1 := r_neL (by decide) h_p_p_1 (r_n (x := (0 : Int32)) (l := 0) (h := 0) (by decide) (by decide)) c27
                refine tp_nl ?_
                refine tp_nift (d_eq (r_n (x := (0 : Int32)) (l := 0) (h := 0) (by decide) (by decide)) (r_n (x := (0 : Int32)) (l := 0) (h := 0) (by decide) (by decide))) ?_
                refine tp_nift (d_eq (r_n (x := (0 : Int32)) (l := 0) (h := 0) (by decide) (by decide)) (r_n (x := (0 : Int32)) (l := 0) (h := 0) (by decide) (by decide))) ?_
                refine tp_nl ?_
                refine tp_u (f_X10_landedIn_J27.eq_1 _ _ _ _ _ _ _ _ _) ?_
                refine tp_e (f_X10_refused.eq_1 _ _) ?_
                refine tp_niff (d_ne2 (r_n (x := (2 : Int32)) (l := 2) (h := 2) (by decide) (by decide)) (r_n (x := (0 : Int32)) (l := 0) (h := 0) (by decide) (by decide)) (by decide)) ?_
                refine tp_nl ?_
                refine tp_iff (d_ne2 (r_n (x := (1 : Int32)) (l := 1) (h := 1) (by decide) (by decide)) (r_n (x := (0 : Int32)) (l := 0) (h := 0) (by decide) (by decide)) (by decide)) ?_
                exact tp_s (r_w (l' := 0) (h' := 2) (r_n (x := (2 : Int32)) (l := 2) (h := 2) (by decide) (by decide)) (by decide) (by decide))
            · skip
              have r30 : R32 (0) (60) k3 := r_nlt2 (r_n (x := (60 : Int32)) (l := 60) (h := 60) (by decide) (by decide)) r24 c25
              refine tp_nl ?_
              refine tp_niff (d_ne2 (r_n (x := (1 : Int32)) (l := 1) (h := 1) (by decide) (by decide)) (r_n (x := (0 : Int32)) (l := 0) (h := 0) (by decide) (by decide)) (by decide)) ?_
              refine tp_nl ?_
              refine tp_e (f_X10_numberTrouble.eq_1 _ _) ?_
              refine tp_nn ?_
              refine tp_e (f_X10_pierTrouble.eq_1 _) ?_
              refine tp_nif (fun c31 => ?_) (fun c31 => ?_)
              · skip
                have r32 : R32 (0) (0) p_p.1 := r_eq1 (l := 0) (h := 0) (by decide) (by decide) h_p_p_1 (r_n (x := (0 : Int32)) (l := 0) (h := 0) (by decide) (by decide)) c31
                refine tp_nl ?_
                refine tp_niff (d_ne2 (r_n (x := (1 : Int32)) (l := 1) (h := 1) (by decide) (by decide)) (r_n (x := (0 : Int32)) (l := 0) (h := 0) (by decide) (by decide)) (by decide)) ?_
                refine tp_e (f_X10_numberTrouble_J17.eq_1 _) ?_
                refine tp_nl ?_
                refine tp_u (f_X10_landedIn_J27.eq_1 _ _ _ _ _ _ _ _ _) ?_
                refine tp_e (f_X10_refused.eq_1 _ _) ?_
                refine tp_niff (d_ne2 (r_n (x := (1 : Int32)) (l := 1) (h := 1) (by decide) (by decide)) (r_n (x := (0 : Int32)) (l := 0) (h := 0) (by decide) (by decide)) (by decide)) ?_
                refine tp_nl ?_
                refine tp_iff (d_ne2 (r_n (x := (1 : Int32)) (l := 1) (h := 1) (by decide) (by decide)) (r_n (x := (0 : Int32)) (l := 0) (h := 0) (by decide) (by decide)) (by decide)) ?_
                exact tp_s (r_w (l' := 0) (h' := 2) (r_n (x := (1 : Int32)) (l := 1) (h := 1) (by decide) (by decide)) (by decide) (by decide))
              · skip
                have r33 : R32 (1) (8) p_p.1 := r_neL (by decide) h_p_p_1 (r_n (x := (0 : Int32)) (l := 0) (h := 0) (by decide) (by decide)) c31
                refine tp_nl ?_
                refine tp_nift (d_eq (r_n (x := (0 : Int32)) (l := 0) (h := 0) (by decide) (by decide)) (r_n (x := (0 : Int32)) (l := 0) (h := 0) (by decide) (by decide))) ?_
                refine tp_niff (d_ne2 (r_n (x := (1 : Int32)) (l := 1) (h := 1) (by decide) (by decide)) (r_n (x := (0 : Int32)) (l := 0) (h := 0) (by decide) (by decide)) (by decide)) ?_
                refine tp_e (f_X10_numberTrouble_J17.eq_1 _) ?_
                refine tp_nl ?_
                refine tp_u (f_X10_landedIn_J27.eq_1 _ _ _ _ _ _ _ _ _) ?_
                refine tp_e (f_X10_refused.eq_1 _ _) ?_
                refine tp_nift (d_eq (r_n (x := (0 : Int32)) (l := 0) (h := 0) (by decide) (by decide)) (r_n (x := (0 : Int32)) (l := 0) (h := 0) (by decide) (by decide))) ?_
                refine tp_nl ?_
                refine tp_ift (d_eq (r_n (x := (0 : Int32)) (l := 0) (h := 0) (by decide) (by decide)) (r_n (x := (0 : Int32)) (l := 0) (h := 0) (by decide) (by decide))) ?_
                refine tp_b (t_f_X1_forecast r18 r30 r33 h_p_p_2_1 h_p_p_2_2_2_2_1 h_p_p_2_2_2_2_2_1 h_p_p_2_2_2_2_2_2_1 h_p_p_2_2_2_2_2_2_2_1) (fun o49 h34 => ?_)
                refine tp_g r6 (by decide) (by decide) ?_
                exact tp_s (r_w (l' := 0) (h' := 2) (r_n (x := (0 : Int32)) (l := 0) (h := 0) (by decide) (by decide)) (by decide) (by decide))
theorem t_f_X10_crabs {k1 : Int32} {k2 : Int32} {x_x : TX10_x} {p_p : TX6_p} {n_n : TX4_n} {y_y : TX1_y} {n2_n : TX4_n} (h_p_p_1 : R32 (0) (8) p_p.1) (h_p_p_2_1 : R32 (0) (9) p_p.2.1) (h_p_p_2_2_2_2_1 : R32 (0) (4) p_p.2.2.2.2.1) (h_p_p_2_2_2_2_2_1 : R32 (0) (5) p_p.2.2.2.2.2.1) (h_p_p_2_2_2_2_2_2_1 : R32 (0) (6) p_p.2.2.2.2.2.2.1) (h_p_p_2_2_2_2_2_2_2_1 : R32 (0) (6) p_p.2.2.2.2.2.2.2.1) : TotP (f_X10_crabs k1 k2 x_x p_p n_n y_y n2_n) (fun (r : Int32 × TX10_x × TX1_y × TX4_n) => R32 (0) (2) r.2.1.1) := by
  unfold f_X10_crabs
  refine tp_e (f_X10_isForecast.eq_1 _ _) ?_
  refine tp_nn ?_
  refine tp_e (f_X10_within.eq_1 _ _ _) ?_
  refine tp_nif (fun c1 => ?_) (fun c1 => ?_)
  · skip
    have r2 : R32 (-2147483648) (-1) k1 := r_lt1 (by decide) (r_top _) (r_n (x := (0 : Int32)) (l := 0) (h := 0) (by decide) (by decide)) c1
    refine tp_nl ?_
    refine tp_nift (d_eq (r_n (x := (0 : Int32)) (l := 0) (h := 0) (by decide) (by decide)) (r_n (x := (0 : Int32)) (l := 0) (h := 0) (by decide) (by decide))) ?_
    refine tp_nl ?_
    refine tp_e (f_X10_numberTrouble.eq_1 _ _) ?_
    refine tp_nn ?_
    refine tp_e (f_X10_pierTrouble.eq_1 _) ?_
    refine tp_nif (fun c3 => ?_) (fun c3 => ?_)
    · skip
      have r4 : R32 (0) (0) p_p.1 := r_eq1 (l := 0) (h := 0) (by decide) (by decide) h_p_p_1 (r_n (x := (0 : Int32)) (l := 0) (h := 0) (by decide) (by decide)) c3
      refine tp_nl ?_
      refine tp_niff (d_ne2 (r_n (x := (1 : Int32)) (l := 1) (h := 1) (by decide) (by decide)) (r_n (x := (0 : Int32)) (l := 0) (h := 0) (by decide) (by decide)) (by decide)) ?_
      refine tp_e (f_X10_numberTrouble_J17.eq_1 _) ?_
      refine tp_nl ?_
      refine tp_e (f_X10_refused.eq_1 _ _) ?_
      refine tp_niff (d_ne2 (r_n (x := (1 : Int32)) (l := 1) (h := 1) (by decide) (by decide)) (r_n (x := (0 : Int32)) (l := 0) (h := 0) (by decide) (by decide)) (by decide)) ?_
      refine tp_nl ?_
      refine tp_iff (d_ne2 (r_n (x := (1 : Int32)) (l := 1) (h := 1) (by decide) (by decide)) (r_n (x := (0 : Int32)) (l := 0) (h := 0) (by decide) (by decide)) (by decide)) ?_
      exact tp_s (r_w (l' := 0) (h' := 2) (r_n (x := (1 : Int32)) (l := 1) (h := 1) (by decide) (by decide)) (by decide) (by decide))
    · skip
      have r5 : R32 (1) (8) p_p.1 := r_neL (by decide) h_p_p_1 (r_n (x := (0 : Int32)) (l := 0) (h := 0) (by decide) (by decide)) c3
      refine tp_nl ?_
      refine tp_nift (d_eq (r_n (x := (0 : Int32)) (l := 0) (h := 0) (by decide) (by decide)) (r_n (x := (0 : Int32)) (l := 0) (h := 0) (by decide) (by decide))) ?_
      refine tp_nift (d_eq (r_n (x := (0 : Int32)) (l := 0) (h := 0) (by decide) (by decide)) (r_n (x := (0 : Int32)) (l := 0) (h := 0) (by decide) (by decide))) ?_
      refine tp_nl ?_
      refine tp_e (f_X10_refused.eq_1 _ _) ?_
      refine tp_niff (d_ne2 (r_n (x := (2 : Int32)) (l := 2) (h := 2) (by decide) (by decide)) (r_n (x := (0 : Int32)) (l := 0) (h := 0) (by decide) (by decide)) (by decide)) ?_
      refine tp_nl ?_
      refine tp_iff (d_ne2 (r_n (x := (1 : Int32)) (l := 1) (h := 1) (by decide) (by decide)) (r_n (x := (0 : Int32)) (l := 0) (h := 0) (by decide) (by decide)) (by decide)) ?_
      exact tp_s (r_w (l' := 0) (h' := 2) (r_n (x := (2 : Int32)) (l := 2) (h := 2) (by decide) (by decide)) (by decide) (by decide))
  · skip
    have r6 : R32 (0) (2147483647) k1 := r_nlt1 (r_top _) (r_n (x := (0 : Int32)) (l := 0) (h := 0) (by decide) (by decide)) c1
    refine tp_nif (fun c7 => ?_) (fun c7 => ?_)
    · skip
      have r8 : R32 (65537) (2147483647) k1 := r_lt2 (by decide) (r_n (x := (65536 : Int32)) (l := 65536) (h := 65536) (by decide) (by decide)) r6 c7
      refine tp_nl ?_
      refine tp_nift (d_eq (r_n (x := (0 : Int32)) (l := 0) (h := 0) (by decide) (by decide)) (r_n (x := (0 : Int32)) (l := 0) (h := 0) (by decide) (by decide))) ?_
      refine tp_nl ?_
      refine tp_e (f_X10_numberTrouble.eq_1 _ _) ?_
      refine tp_nn ?_
      refine tp_e (f_X10_pierTrouble.eq_1 _) ?_
      refine tp_nif (fun c9 => ?_) (fun c9 => ?_)
      · skip
        have r10 : R32 (0) (0) p_p.1 := r_eq1 (l := 0) (h := 0) (by decide) (by decide) h_p_p_1 (r_n (x := (0 : Int32)) (l := 0) (h := 0) (by decide) (by decide)) c9
        refine tp_nl ?_
        refine tp_niff (d_ne2 (r_n (x := (1 : Int32)) (l := 1) (h := 1) (by decide) (by decide)) (r_n (x := (0 : Int32)) (l := 0) (h := 0) (by decide) (by decide)) (by decide)) ?_
        refine tp_e (f_X10_numberTrouble_J17.eq_1 _) ?_
        refine tp_nl ?_
        refine tp_e (f_X10_refused.eq_1 _ _) ?_
        refine tp_niff (d_ne2 (r_n (x := (1 : Int32)) (l := 1) (h := 1) (by decide) (by decide)) (r_n (x := (0 : Int32)) (l := 0) (h := 0) (by decide) (by decide)) (by decide)) ?_
        refine tp_nl ?_
        refine tp_iff (d_ne2 (r_n (x := (1 : Int32)) (l := 1) (h := 1) (by decide) (by decide)) (r_n (x := (0 : Int32)) (l := 0) (h := 0) (by decide) (by decide)) (by decide)) ?_
        exact tp_s (r_w (l' := 0) (h' := 2) (r_n (x := (1 : Int32)) (l := 1) (h := 1) (by decide) (by decide)) (by decide) (by decide))
      · skip
        have r11 : R32 (1) (8) p_p.1 := r_neL (by decide) h_p_p_1 (r_n (x := (0 : Int32)) (l := 0) (h := 0) (by decide) (by decide)) c9
        refine tp_nl ?_
        refine tp_nift (d_eq (r_n (x := (0 : Int32)) (l := 0) (h := 0) (by decide) (by decide)) (r_n (x := (0 : Int32)) (l := 0) (h := 0) (by decide) (by decide))) ?_
        refine tp_nift (d_eq (r_n (x := (0 : Int32)) (l := 0) (h := 0) (by decide) (by decide)) (r_n (x := (0 : Int32)) (l := 0) (h := 0) (by decide) (by decide))) ?_
        refine tp_nl ?_
        refine tp_e (f_X10_refused.eq_1 _ _) ?_
        refine tp_niff (d_ne2 (r_n (x := (2 : Int32)) (l := 2) (h := 2) (by decide) (by decide)) (r_n (x := (0 : Int32)) (l := 0) (h := 0) (by decide) (by decide)) (by decide)) ?_
        refine tp_nl ?_
        refine tp_iff (d_ne2 (r_n (x := (1 : Int32)) (l := 1) (h := 1) (by decide) (by decide)) (r_n (x := (0 : Int32)) (l := 0) (h := 0) (by decide) (by decide)) (by decide)) ?_
        exact tp_s (r_w (l' := 0) (h' := 2) (r_n (x := (2 : Int32)) (l := 2) (h := 2) (by decide) (by decide)) (by decide) (by decide))
    · skip
      have r12 : R32 (0) (65536) k1 := r_nlt2 (r_n (x := (65536 : Int32)) (l := 65536) (h := 65536) (by decide) (by decide)) r6 c7
      refine tp_nl ?_
      refine tp_niff (d_ne2 (r_n (x := (1 : Int32)) (l := 1) (h := 1) (by decide) (by decide)) (r_n (x := (0 : Int32)) (l := 0) (h := 0) (by decide) (by decide)) (by decide)) ?_
      refine tp_nn ?_
      refine tp_e (f_X10_within.eq_1 _ _ _) ?_
      refine tp_nif (fun c13 => ?_) (fun c13 => ?_)
      · skip
        have r14 : R32 (-2147483648) (-1) k2 := r_lt1 (by decide) (r_top _) (r_n (x := (0 : Int32)) (l := 0) (h := 0) (by decide) (by decide)) c13
        refine tp_nl ?_
        refine tp_nift (d_eq (r_n (x := (0 : Int32)) (l := 0) (h := 0) (by decide) (by decide)) (r_n (x := (0 : Int32)) (l := 0) (h := 0) (by decide) (by decide))) ?_
        refine tp_nl ?_
        refine tp_e (f_X10_numberTrouble.eq_1 _ _) ?_
        refine tp_nn ?_
        refine tp_e (f_X10_pierTrouble.eq_1 _) ?_
        refine tp_nif (fun c15 => ?_) (fun c15 => ?_)
        · skip
          have r16 : R32 (0) (0) p_p.1 := r_eq1 (l := 0) (h := 0) (by decide) (by decide) h_p_p_1 (r_n (x := (0 : Int32)) (l := 0) (h := 0) (by decide) (by decide)) c15
          refine tp_nl ?_
          refine tp_niff (d_ne2 (r_n (x := (1 : Int32)) (l := 1) (h := 1) (by decide) (by decide)) (r_n (x := (0 : Int32)) (l := 0) (h := 0) (by decide) (by decide)) (by decide)) ?_
          refine tp_e (f_X10_numberTrouble_J17.eq_1 _) ?_
          refine tp_nl ?_
          refine tp_e (f_X10_refused.eq_1 _ _) ?_
          refine tp_niff (d_ne2 (r_n (x := (1 : Int32)) (l := 1) (h := 1) (by decide) (by decide)) (r_n (x := (0 : Int32)) (l := 0) (h := 0) (by decide) (by decide)) (by decide)) ?_
          refine tp_nl ?_
          refine tp_iff (d_ne2 (r_n (x := (1 : Int32)) (l := 1) (h := 1) (by decide) (by decide)) (r_n (x := (0 : Int32)) (l := 0) (h := 0) (by decide) (by decide)) (by decide)) ?_
          exact tp_s (r_w (l' := 0) (h' := 2) (r_n (x := (1 : Int32)) (l := 1) (h := 1) (by decide) (by decide)) (by decide) (by decide))
        · skip
          have r17 : R32 (1) (8) p_p.1 := r_neL (by decide) h_p_p_1 (r_n (x := (0 : Int32)) (l := 0) (h := 0) (by decide) (by decide)) c15
          refine tp_nl ?_
          refine tp_nift (d_eq (r_n (x := (0 : Int32)) (l := 0) (h := 0) (by decide) (by decide)) (r_n (x := (0 : Int32)) (l := 0) (h := 0) (by decide) (by decide))) ?_
          refine tp_nift (d_eq (r_n (x := (0 : Int32)) (l := 0) (h := 0) (by decide) (by decide)) (r_n (x := (0 : Int32)) (l := 0) (h := 0) (by decide) (by decide))) ?_
          refine tp_nl ?_
          refine tp_e (f_X10_refused.eq_1 _ _) ?_
          refine tp_niff (d_ne2 (r_n (x := (2 : Int32)) (l := 2) (h := 2) (by decide) (by decide)) (r_n (x := (0 : Int32)) (l := 0) (h := 0) (by decide) (by decide)) (by decide)) ?_
          refine tp_nl ?_
          refine tp_iff (d_ne2 (r_n (x := (1 : Int32)) (l := 1) (h := 1) (by decide) (by decide)) (r_n (x := (0 : Int32)) (l := 0) (h := 0) (by decide) (by decide)) (by decide)) ?_
          exact tp_s (r_w (l' := 0) (h' := 2) (r_n (x := (2 : Int32)) (l := 2) (h := 2) (by decide) (by decide)) (by decide) (by decide))
      · skip
        have r18 : R32 (0) (2147483647) k2 := r_nlt1 (r_top _) (r_n (x := (0 : Int32)) (l := 0) (h := 0) (by decide) (by decide)) c13
        refine tp_nif (fun c19 => ?_) (fun c19 => ?_)
        · skip
          have r20 : R32 (61) (2147483647) k2 := r_lt2 (by decide) (r_n (x := (60 : Int32)) (l := 60) (h := 60) (by decide) (by decide)) r18 c19
          refine tp_nl ?_
          refine tp_nift (d_eq (r_n (x := (0 : Int32)) (l := 0) (h := 0) (by decide) (by decide)) (r_n (x := (0 : Int32)) (l := 0) (h := 0) (by decide) (by decide))) ?_
          refine tp_nl ?_
          refine tp_e (f_X10_numberTrouble.eq_1 _ _) ?_
          refine tp_nn ?_
          refine tp_e (f_X10_pierTrouble.eq_1 _) ?_
          refine tp_nif (fun c21 => ?_) (fun c21 => ?_)
          · skip
            have r22 : R32 (0) (0) p_p.1 := r_eq1 (l := 0) (h := 0) (by decide) (by decide) h_p_p_1 (r_n (x := (0 : Int32)) (l := 0) (h := 0) (by decide) (by decide)) c21
            refine tp_nl ?_
            refine tp_niff (d_ne2 (r_n (x := (1 : Int32)) (l := 1) (h := 1) (by decide) (by decide)) (r_n (x := (0 : Int32)) (l := 0) (h := 0) (by decide) (by decide)) (by decide)) ?_
            refine tp_e (f_X10_numberTrouble_J17.eq_1 _) ?_
            refine tp_nl ?_
            refine tp_e (f_X10_refused.eq_1 _ _) ?_
            refine tp_niff (d_ne2 (r_n (x := (1 : Int32)) (l := 1) (h := 1) (by decide) (by decide)) (r_n (x := (0 : Int32)) (l := 0) (h := 0) (by decide) (by decide)) (by decide)) ?_
            refine tp_nl ?_
            refine tp_iff (d_ne2 (r_n (x := (1 : Int32)) (l := 1) (h := 1) (by decide) (by decide)) (r_n (x := (0 : Int32)) (l := 0) (h := 0) (by decide) (by decide)) (by decide)) ?_
            exact tp_s (r_w (l' := 0) (h' := 2) (r_n (x := (1 : Int32)) (l := 1) (h := 1) (by decide) (by decide)) (by decide) (by decide))
          · skip
            have r23 : R32 (1) (8) p_p.1 := r_neL (by decide) h_p_p_1 (r_n (x := (0 : Int32)) (l := 0) (h := 0) (by decide) (by decide)) c21
            refine tp_nl ?_
            refine tp_nift (d_eq (r_n (x := (0 : Int32)) (l := 0) (h := 0) (by decide) (by decide)) (r_n (x := (0 : Int32)) (l := 0) (h := 0) (by decide) (by decide))) ?_
            refine tp_nift (d_eq (r_n (x := (0 : Int32)) (l := 0) (h := 0) (by decide) (by decide)) (r_n (x := (0 : Int32)) (l := 0) (h := 0) (by decide) (by decide))) ?_
            refine tp_nl ?_
            refine tp_e (f_X10_refused.eq_1 _ _) ?_
            refine tp_niff (d_ne2 (r_n (x := (2 : Int32)) (l := 2) (h := 2) (by decide) (by decide)) (r_n (x := (0 : Int32)) (l := 0) (h := 0) (by decide) (by decide)) (by decide)) ?_
            refine tp_nl ?_
            refine tp_iff (d_ne2 (r_n (x := (1 : Int32)) (l := 1) (h := 1) (by decide) (by decide)) (r_n (x := (0 : Int32)) (l := 0) (h := 0) (by decide) (by decide)) (by decide)) ?_
            exact tp_s (r_w (l' := 0) (h' := 2) (r_n (x := (2 : Int32)) (l := 2) (h := 2) (by decide) (by decide)) (by decide) (by decide))
        · skip
          have r24 : R32 (0) (60) k2 := r_nlt2 (r_n (x := (60 : Int32)) (l := 60) (h := 60) (by decide) (by decide)) r18 c19
          refine tp_nl ?_
          refine tp_niff (d_ne2 (r_n (x := (1 : Int32)) (l := 1) (h := 1) (by decide) (by decide)) (r_n (x := (0 : Int32)) (l := 0) (h := 0) (by decide) (by decide)) (by decide)) ?_
          refine tp_nl ?_
          refine tp_e (f_X10_numberTrouble.eq_1 _ _) ?_
          refine tp_nn ?_
          refine tp_e (f_X10_pierTrouble.eq_1 _) ?_
          refine tp_nif (fun c25 => ?_) (fun c25 => ?_)
          · skip
            have r26 : R32 (0) (0) p_p.1 := r_eq1 (l := 0) (h := 0) (by decide) (by decide) h_p_p_1 (r_n (x := (0 : Int32)) (l := 0) (h := 0) (by decide) (by decide)) c25
            refine tp_nl ?_
            refine tp_niff (d_ne2 (r_n (x := (1 : Int32)) (l := 1) (h := 1) (by decide) (by decide)) (r_n (x := (0 : Int32)) (l := 0) (h := 0) (by decide) (by decide)) (by decide)) ?_
            refine tp_e (f_X10_numberTrouble_J17.eq_1 _) ?_
            refine tp_nl ?_
            refine tp_e (f_X10_refused.eq_1 _ _) ?_
            refine tp_niff (d_ne2 (r_n (x := (1 : Int32)) (l := 1) (h := 1) (by decide) (by decide)) (r_n (x := (0 : Int32)) (l := 0) (h := 0) (by decide) (by decide)) (by decide)) ?_
            refine tp_nl ?_
            refine tp_iff (d_ne2 (r_n (x := (1 : Int32)) (l := 1) (h := 1) (by decide) (by decide)) (r_n (x := (0 : Int32)) (l := 0) (h := 0) (by decide) (by decide)) (by decide)) ?_
            exact tp_s (r_w (l' := 0) (h' := 2) (r_n (x := (1 : Int32)) (l := 1) (h := 1) (by decide) (by decide)) (by decide) (by decide))
          · skip
            have r27 : R32 (1) (8) p_p.1 := r_neL (by decide) h_p_p_1 (r_n (x := (0 : Int32)) (l := 0) (h := 0) (by decide) (by decide)) c25
            refine tp_nl ?_
            refine tp_nift (d_eq (r_n (x := (0 : Int32)) (l := 0) (h := 0) (by decide) (by decide)) (r_n (x := (0 : Int32)) (l := 0) (h := 0) (by decide) (by decide))) ?_
            refine tp_niff (d_ne2 (r_n (x := (1 : Int32)) (l := 1) (h := 1) (by decide) (by decide)) (r_n (x := (0 : Int32)) (l := 0) (h := 0) (by decide) (by decide)) (by decide)) ?_
            refine tp_e (f_X10_numberTrouble_J17.eq_1 _) ?_
            refine tp_nl ?_
            refine tp_e (f_X10_refused.eq_1 _ _) ?_
            refine tp_nift (d_eq (r_n (x := (0 : Int32)) (l := 0) (h := 0) (by decide) (by decide)) (r_n (x := (0 : Int32)) (l := 0) (h := 0) (by decide) (by decide))) ?_
            refine tp_nl ?_
            refine tp_ift (d_eq (r_n (x := (0 : Int32)) (l := 0) (h := 0) (by decide) (by decide)) (r_n (x := (0 : Int32)) (l := 0) (h := 0) (by decide) (by decide))) ?_
            refine tp_b (t_f_X1_forecast r12 r24 r27 h_p_p_2_1 h_p_p_2_2_2_2_1 h_p_p_2_2_2_2_2_1 h_p_p_2_2_2_2_2_2_1 h_p_p_2_2_2_2_2_2_2_1) (fun o32 h28 => ?_)
            exact tp_s (r_w (l' := 0) (h' := 2) (r_n (x := (0 : Int32)) (l := 0) (h := 0) (by decide) (by decide)) (by decide) (by decide))
theorem t_f_X12_answer_J23 {m_t : TX12_t} : TotP (f_X12_answer_J23 m_t) (fun (r : Int32 × TX12_t) => R32 (0) (0) r.2.1 ∧ R32 (0) (1) r.2.2.1 ∧ R32 (-1) (-1) r.2.2.2) := by
  unfold f_X12_answer_J23
  refine tp_e (f_X12_refused.eq_1 _ _) ?_
  refine tp_nl ?_
  exact tp_s ⟨(r_n (x := (0 : Int32)) (l := 0) (h := 0) (by decide) (by decide)), (r_w (l' := 0) (h' := 1) (r_n (x := (1 : Int32)) (l := 1) (h := 1) (by decide) (by decide)) (by decide) (by decide)), (r_n (x := (-1 : Int32)) (l := -1) (h := -1) (by decide) (by decide))⟩
theorem t_f_X12_answer_J244 {m_t : TX12_t} {v244_t1 : Int32} : TotP (f_X12_answer_J244 m_t v244_t1) (fun (r : Int32 × TX12_t) => R32 (0) (0) r.2.1 ∧ R32 (0) (1) r.2.2.1 ∧ R32 (-1) (-1) r.2.2.2) := by
  unfold f_X12_answer_J244
  refine tp_e (f_X12_good.eq_1 _ _) ?_
  refine tp_nl ?_
  exact tp_s ⟨(r_n (x := (0 : Int32)) (l := 0) (h := 0) (by decide) (by decide)), (r_w (l' := 0) (h' := 1) (r_n (x := (0 : Int32)) (l := 0) (h := 0) (by decide) (by decide)) (by decide) (by decide)), (r_n (x := (-1 : Int32)) (l := -1) (h := -1) (by decide) (by decide))⟩
theorem t_f_X12_answer {k1 : Int32} {k2 : Int32} {m_t : TX12_t} {m_v : TX12_v} {q_q : TX11_q} (h_q_q_1 : R32 (2) (8) q_q.1) (h_q_q_2_1 : R32 (1) (9) q_q.2.1) (h_q_q_2_2_2_2_1 : R32 (1) (4) q_q.2.2.2.2.1) (h_q_q_2_2_2_2_2_1 : R32 (0) (5) q_q.2.2.2.2.2.1) (h_q_q_2_2_2_2_2_2_1 : R32 (0) (6) q_q.2.2.2.2.2.2.1) (h_q_q_2_2_2_2_2_2_2_1 : R32 (0) (6) q_q.2.2.2.2.2.2.2.1) : TotP (f_X12_answer k1 k2 m_t m_v q_q) (fun (r : Int32 × TX12_t) => R32 (0) (0) r.2.1 ∧ R32 (0) (1) r.2.2.1 ∧ R32 (-1) (-1) r.2.2.2) := by
  unfold f_X12_answer
  refine tp_e (f_X12_isAnswer.eq_1 _ _) ?_
  refine tp_nif (fun c1 => ?_) (fun c1 => ?_)
  · skip
    have r2 : R32 (-2147483648) (-1) k1 := r_lt1 (by decide) (r_top _) (r_n (x := (0 : Int32)) (l := 0) (h := 0) (by decide) (by decide)) c1
    refine tp_nl ?_
    refine tp_ift (d_eq (r_n (x := (0 : Int32)) (l := 0) (h := 0) (by decide) (by decide)) (r_n (x := (0 : Int32)) (l := 0) (h := 0) (by decide) (by decide))) ?_
    exact t_f_X12_answer_J23 
  · skip
    have r3 : R32 (0) (2147483647) k1 := r_nlt1 (r_top _) (r_n (x := (0 : Int32)) (l := 0) (h := 0) (by decide) (by decide)) c1
    refine tp_nif (fun c4 => ?_) (fun c4 => ?_)
    · skip
      refine tp_nl ?_
      refine tp_ift (d_eq (r_n (x := (0 : Int32)) (l := 0) (h := 0) (by decide) (by decide)) (r_n (x := (0 : Int32)) (l := 0) (h := 0) (by decide) (by decide))) ?_
      exact t_f_X12_answer_J23 
    · skip
      have r5 : R32 (1) (6) q_q.2.2.2.2.2.2.1 := r_nle1 (by decide) h_q_q_2_2_2_2_2_2_1 r3 c4
      have r6 : R32 (0) (5) k1 := r_nle2 (by decide) h_q_q_2_2_2_2_2_2_1 r3 c4
      refine tp_nl ?_
      refine tp_iff (d_ne2 (r_n (x := (1 : Int32)) (l := 1) (h := 1) (by decide) (by decide)) (r_n (x := (0 : Int32)) (l := 0) (h := 0) (by decide) (by decide)) (by decide)) ?_
      refine tp_e (f_X12_in.eq_1 _ _ _) ?_
      refine tp_nif (fun c7 => ?_) (fun c7 => ?_)
      · skip
        have r8 : R32 (-2147483648) (-1) k2 := r_lt1 (by decide) (r_top _) (r_n (x := (0 : Int32)) (l := 0) (h := 0) (by decide) (by decide)) c7
        refine tp_nl ?_
        refine tp_ift (d_eq (r_n (x := (0 : Int32)) (l := 0) (h := 0) (by decide) (by decide)) (r_n (x := (0 : Int32)) (l := 0) (h := 0) (by decide) (by decide))) ?_
        exact t_f_X12_answer_J23 
      · skip
        have r9 : R32 (0) (2147483647) k2 := r_nlt1 (r_top _) (r_n (x := (0 : Int32)) (l := 0) (h := 0) (by decide) (by decide)) c7
        refine tp_nif (fun c10 => ?_) (fun c10 => ?_)
        · skip
          have r11 : R32 (10) (2147483647) k2 := r_lt2 (by decide) (r_n (x := (9 : Int32)) (l := 9) (h := 9) (by decide) (by decide)) r9 c10
          refine tp_nl ?_
          refine tp_ift (d_eq (r_n (x := (0 : Int32)) (l := 0) (h := 0) (by decide) (by decide)) (r_n (x := (0 : Int32)) (l := 0) (h := 0) (by decide) (by decide))) ?_
          exact t_f_X12_answer_J23 
        · skip
          have r12 : R32 (0) (9) k2 := r_nlt2 (r_n (x := (9 : Int32)) (l := 9) (h := 9) (by decide) (by decide)) r9 c10
          refine tp_nl ?_
          refine tp_iff (d_ne2 (r_n (x := (1 : Int32)) (l := 1) (h := 1) (by decide) (by decide)) (r_n (x := (0 : Int32)) (l := 0) (h := 0) (by decide) (by decide)) (by decide)) ?_
          refine tp_if (fun c13 => ?_) (fun c13 => ?_)
          · skip
            have r14 : R32 (0) (0) k2 := r_eq1 (l := 0) (h := 0) (by decide) (by decide) r12 (r_n (x := (0 : Int32)) (l := 0) (h := 0) (by decide) (by decide)) c13
            refine tp_g r6 (by decide) (by decide) ?_
            refine tp_e (f_X12_good.eq_1 _ _) ?_
            refine tp_nl ?_
            exact tp_s ⟨(r_n (x := (0 : Int32)) (l := 0) (h := 0) (by decide) (by decide)), (r_w (l' := 0) (h' := 1) (r_n (x := (0 : Int32)) (l := 0) (h := 0) (by decide) (by decide)) (by decide) (by decide)), (r_n (x := (-1 : Int32)) (l := -1) (h := -1) (by decide) (by decide))⟩
          · skip
            have r15 : R32 (1) (9) k2 := r_neL (by decide) r12 (r_n (x := (0 : Int32)) (l := 0) (h := 0) (by decide) (by decide)) c13
            refine tp_if (fun c16 => ?_) (fun c16 => ?_)
            · skip
              have r17 : R32 (1) (1) k2 := r_eq1 (l := 1) (h := 1) (by decide) (by decide) r15 (r_n (x := (1 : Int32)) (l := 1) (h := 1) (by decide) (by decide)) c16
              refine tp_g r6 (by decide) (by decide) ?_
              refine tp_e (f_X12_good.eq_1 _ _) ?_
              refine tp_nl ?_
              exact tp_s ⟨(r_n (x := (0 : Int32)) (l := 0) (h := 0) (by decide) (by decide)), (r_w (l' := 0) (h' := 1) (r_n (x := (0 : Int32)) (l := 0) (h := 0) (by decide) (by decide)) (by decide) (by decide)), (r_n (x := (-1 : Int32)) (l := -1) (h := -1) (by decide) (by decide))⟩
            · skip
              have r18 : R32 (2) (9) k2 := r_neL (by decide) r15 (r_n (x := (1 : Int32)) (l := 1) (h := 1) (by decide) (by decide)) c16
              refine tp_if (fun c19 => ?_) (fun c19 => ?_)
              · skip
                have r20 : R32 (2) (2) k2 := r_eq1 (l := 2) (h := 2) (by decide) (by decide) r18 (r_n (x := (2 : Int32)) (l := 2) (h := 2) (by decide) (by decide)) c19
                refine tp_g r6 (by decide) (by decide) ?_
                refine tp_e (f_X12_good.eq_1 _ _) ?_
                refine tp_nl ?_
                exact tp_s ⟨(r_n (x := (0 : Int32)) (l := 0) (h := 0) (by decide) (by decide)), (r_w (l' := 0) (h' := 1) (r_n (x := (0 : Int32)) (l := 0) (h := 0) (by decide) (by decide)) (by decide) (by decide)), (r_n (x := (-1 : Int32)) (l := -1) (h := -1) (by decide) (by decide))⟩
              · skip
                have r21 : R32 (3) (9) k2 := r_neL (by decide) r18 (r_n (x := (2 : Int32)) (l := 2) (h := 2) (by decide) (by decide)) c19
                refine tp_if (fun c22 => ?_) (fun c22 => ?_)
                · skip
                  have r23 : R32 (3) (3) k2 := r_eq1 (l := 3) (h := 3) (by decide) (by decide) r21 (r_n (x := (3 : Int32)) (l := 3) (h := 3) (by decide) (by decide)) c22
                  refine tp_g r6 (by decide) (by decide) ?_
                  refine tp_e (f_X12_good.eq_1 _ _) ?_
                  refine tp_nl ?_
                  exact tp_s ⟨(r_n (x := (0 : Int32)) (l := 0) (h := 0) (by decide) (by decide)), (r_w (l' := 0) (h' := 1) (r_n (x := (0 : Int32)) (l := 0) (h := 0) (by decide) (by decide)) (by decide) (by decide)), (r_n (x := (-1 : Int32)) (l := -1) (h := -1) (by decide) (by decide))⟩
                · skip
                  have r24 : R32 (4) (9) k2 := r_neL (by decide) r21 (r_n (x := (3 : Int32)) (l := 3) (h := 3) (by decide) (by decide)) c22
                  refine tp_if (fun c25 => ?_) (fun c25 => ?_)
                  · skip
                    have r26 : R32 (4) (4) k2 := r_eq1 (l := 4) (h := 4) (by decide) (by decide) r24 (r_n (x := (4 : Int32)) (l := 4) (h := 4) (by decide) (by decide)) c25
                    refine tp_g r6 (by decide) (by decide) ?_
                    refine tp_e (f_X12_good.eq_1 _ _) ?_
                    refine tp_nl ?_
                    exact tp_s ⟨(r_n (x := (0 : Int32)) (l := 0) (h := 0) (by decide) (by decide)), (r_w (l' := 0) (h' := 1) (r_n (x := (0 : Int32)) (l := 0) (h := 0) (by decide) (by decide)) (by decide) (by decide)), (r_n (x := (-1 : Int32)) (l := -1) (h := -1) (by decide) (by decide))⟩
                  · skip
                    have r27 : R32 (5) (9) k2 := r_neL (by decide) r24 (r_n (x := (4 : Int32)) (l := 4) (h := 4) (by decide) (by decide)) c25
                    refine tp_if (fun c28 => ?_) (fun c28 => ?_)
                    · skip
                      have r29 : R32 (5) (5) k2 := r_eq1 (l := 5) (h := 5) (by decide) (by decide) r27 (r_n (x := (5 : Int32)) (l := 5) (h := 5) (by decide) (by decide)) c28
                      refine tp_g r6 (by decide) (by decide) ?_
                      refine tp_e (f_X12_good.eq_1 _ _) ?_
                      refine tp_nl ?_
                      exact tp_s ⟨(r_n (x := (0 : Int32)) (l := 0) (h := 0) (by decide) (by decide)), (r_w (l' := 0) (h' := 1) (r_n (x := (0 : Int32)) (l := 0) (h := 0) (by decide) (by decide)) (by decide) (by decide)), (r_n (x := (-1 : Int32)) (l := -1) (h := -1) (by decide) (by decide))⟩
                    · skip
                      have r30 : R32 (6) (9) k2 := r_neL (by decide) r27 (r_n (x := (5 : Int32)) (l := 5) (h := 5) (by decide) (by decide)) c28
                      refine tp_if (fun c31 => ?_) (fun c31 => ?_)
                      · skip
                        have r32 : R32 (6) (6) k2 := r_eq1 (l := 6) (h := 6) (by decide) (by decide) r30 (r_n (x := (6 : Int32)) (l := 6) (h := 6) (by decide) (by decide)) c31
                        refine tp_g (r_add (l := 0) (h := 5) (r_n (x := (0 : Int32)) (l := 0) (h := 0) (by decide) (by decide)) r6 (by decide) (by decide) (by decide) (by decide)) (by decide) (by decide) ?_
                        refine tp_e (f_X12_good.eq_1 _ _) ?_
                        refine tp_nl ?_
                        exact tp_s ⟨(r_n (x := (0 : Int32)) (l := 0) (h := 0) (by decide) (by decide)), (r_w (l' := 0) (h' := 1) (r_n (x := (0 : Int32)) (l := 0) (h := 0) (by decide) (by decide)) (by decide) (by decide)), (r_n (x := (-1 : Int32)) (l := -1) (h := -1) (by decide) (by decide))⟩
                      · skip
                        have r33 : R32 (7) (9) k2 := r_neL (by decide) r30 (r_n (x := (6 : Int32)) (l := 6) (h := 6) (by decide) (by decide)) c31
                        refine tp_if (fun c34 => ?_) (fun c34 => ?_)
                        · skip
                          have r35 : R32 (7) (7) k2 := r_eq1 (l := 7) (h := 7) (by decide) (by decide) r33 (r_n (x := (7 : Int32)) (l := 7) (h := 7) (by decide) (by decide)) c34
                          refine tp_g (r_add (l := 6) (h := 11) (r_n (x := (6 : Int32)) (l := 6) (h := 6) (by decide) (by decide)) r6 (by decide) (by decide) (by decide) (by decide)) (by decide) (by decide) ?_
                          refine tp_e (f_X12_good.eq_1 _ _) ?_
                          refine tp_nl ?_
                          exact tp_s ⟨(r_n (x := (0 : Int32)) (l := 0) (h := 0) (by decide) (by decide)), (r_w (l' := 0) (h' := 1) (r_n (x := (0 : Int32)) (l := 0) (h := 0) (by decide) (by decide)) (by decide) (by decide)), (r_n (x := (-1 : Int32)) (l := -1) (h := -1) (by decide) (by decide))⟩
                        · skip
                          have r36 : R32 (8) (9) k2 := r_neL (by decide) r33 (r_n (x := (7 : Int32)) (l := 7) (h := 7) (by decide) (by decide)) c34
                          refine tp_if (fun c37 => ?_) (fun c37 => ?_)
                          · skip
                            have r38 : R32 (8) (8) k2 := r_eq1 (l := 8) (h := 8) (by decide) (by decide) r36 (r_n (x := (8 : Int32)) (l := 8) (h := 8) (by decide) (by decide)) c37
                            refine tp_g (r_add (l := 12) (h := 17) (r_n (x := (12 : Int32)) (l := 12) (h := 12) (by decide) (by decide)) r6 (by decide) (by decide) (by decide) (by decide)) (by decide) (by decide) ?_
                            refine tp_e (f_X12_good.eq_1 _ _) ?_
                            refine tp_nl ?_
                            exact tp_s ⟨(r_n (x := (0 : Int32)) (l := 0) (h := 0) (by decide) (by decide)), (r_w (l' := 0) (h' := 1) (r_n (x := (0 : Int32)) (l := 0) (h := 0) (by decide) (by decide)) (by decide) (by decide)), (r_n (x := (-1 : Int32)) (l := -1) (h := -1) (by decide) (by decide))⟩
                          · skip
                            have r39 : R32 (9) (9) k2 := r_neL (by decide) r36 (r_n (x := (8 : Int32)) (l := 8) (h := 8) (by decide) (by decide)) c37
                            refine tp_g (r_add (l := 0) (h := 5) (r_n (x := (0 : Int32)) (l := 0) (h := 0) (by decide) (by decide)) r6 (by decide) (by decide) (by decide) (by decide)) (by decide) (by decide) ?_
                            refine tp_if (fun c40 => ?_) (fun c40 => ?_)
                            · skip
                              have r41 : R32 (1) (1) (m_v (((0 : Int32) + k1)).toNatClampNeg) := r_eq1 (l := 1) (h := 1) (by decide) (by decide) (r_top _) (r_n (x := (1 : Int32)) (l := 1) (h := 1) (by decide) (by decide)) c40
                              refine tp_g (r_add (l := 6) (h := 11) (r_n (x := (6 : Int32)) (l := 6) (h := 6) (by decide) (by decide)) r6 (by decide) (by decide) (by decide) (by decide)) (by decide) (by decide) ?_
                              refine tp_b (t_f_X12_keeps r6 h_q_q_1 h_q_q_2_1 h_q_q_2_2_2_2_1 h_q_q_2_2_2_2_2_1 r5 h_q_q_2_2_2_2_2_2_2_1) (fun o236 h42 => ?_)
                              exact t_f_X12_answer_J244 
                            · skip
                              exact t_f_X12_answer_J244 
theorem t_f_X12_asker_J22 {m_t : TX12_t} : TotP (f_X12_asker_J22 m_t) (fun (r : Int32 × TX12_t) => R32 (0) (0) r.2.1 ∧ R32 (0) (1) r.2.2.1 ∧ R32 (-1) (-1) r.2.2.2) := by
  unfold f_X12_asker_J22
  refine tp_e (f_X12_refused.eq_1 _ _) ?_
  refine tp_nl ?_
  exact tp_s ⟨(r_n (x := (0 : Int32)) (l := 0) (h := 0) (by decide) (by decide)), (r_w (l' := 0) (h' := 1) (r_n (x := (1 : Int32)) (l := 1) (h := 1) (by decide) (by decide)) (by decide) (by decide)), (r_n (x := (-1 : Int32)) (l := -1) (h := -1) (by decide) (by decide))⟩
theorem t_f_X12_asker_J80 {k44_ : Int32 → Int32 → Option (Int32 × TX12_t)} {v44_l4 : Int32} {v44_l5 : Int32} {v80_t1 : Int32} {N44 : Nat} (hk44 : ∀ (v44_l5 : Int32) (v44_l4 : Int32), R32 (0) (6) v44_l5 → R32 (0) (63) v44_l4 → (6 : Int) - v44_l5.toInt < (N44 : Nat) → TotP (k44_ v44_l5 v44_l4) (fun (r : Int32 × TX12_t) => R32 (0) (0) r.2.1 ∧ R32 (0) (1) r.2.2.1 ∧ R32 (-1) (-1) r.2.2.2)) (hm44 : (6 : Int) - v44_l5.toInt < ((N44 + 1 : Nat) : Int)) (h_v44_l4 : R32 (0) (63) v44_l4) (h_v44_l5 : R32 (0) (5) v44_l5) (h_v80_t1 : R32 (0) (32) v80_t1) : TotP (f_X12_asker_J80 k44_ v44_l4 v44_l5 v80_t1) (fun (r : Int32 × TX12_t) => R32 (0) (0) r.2.1 ∧ R32 (0) (1) r.2.2.1 ∧ R32 (-1) (-1) r.2.2.2) := by
  unfold f_X12_asker_J80
  exact hk44 _ _ (r_w (l' := 0) (h' := 6) (r_add (l := 1) (h := 6) h_v44_l5 (r_n (x := (1 : Int32)) (l := 1) (h := 1) (by decide) (by decide)) (by decide) (by decide) (by decide) (by decide)) (by decide) (by decide)) (r_or 6 63 h_v44_l4 h_v80_t1 (by decide) (by decide) (by decide) (by decide) (by decide)) (ms_up (y := (1 : Int32)) h_v44_l5 (by decide) (by decide) (by decide) hm44)
theorem t_f_X12_asker_J155 {m_t : TX12_t} {v155_t1 : Int32} : TotP (f_X12_asker_J155 m_t v155_t1) (fun (r : Int32 × TX12_t) => R32 (0) (0) r.2.1 ∧ R32 (0) (1) r.2.2.1 ∧ R32 (-1) (-1) r.2.2.2) := by
  unfold f_X12_asker_J155
  refine tp_e (f_X12_good.eq_1 _ _) ?_
  refine tp_nl ?_
  exact tp_s ⟨(r_n (x := (0 : Int32)) (l := 0) (h := 0) (by decide) (by decide)), (r_w (l' := 0) (h' := 1) (r_n (x := (0 : Int32)) (l := 0) (h := 0) (by decide) (by decide)) (by decide) (by decide)), (r_n (x := (-1 : Int32)) (l := -1) (h := -1) (by decide) (by decide))⟩
theorem t_f_X12_asker_J176 {m_t : TX12_t} {v176_t1 : Int32} : TotP (f_X12_asker_J176 m_t v176_t1) (fun (r : Int32 × TX12_t) => R32 (0) (0) r.2.1 ∧ R32 (0) (1) r.2.2.1 ∧ R32 (-1) (-1) r.2.2.2) := by
  unfold f_X12_asker_J176
  refine tp_e (f_X12_good.eq_1 _ _) ?_
  refine tp_nl ?_
  exact tp_s ⟨(r_n (x := (0 : Int32)) (l := 0) (h := 0) (by decide) (by decide)), (r_w (l' := 0) (h' := 1) (r_n (x := (0 : Int32)) (l := 0) (h := 0) (by decide) (by decide)) (by decide) (by decide)), (r_n (x := (-1 : Int32)) (l := -1) (h := -1) (by decide) (by decide))⟩
theorem t_f_X12_asker_J197 {m_t : TX12_t} {v197_t1 : Int32} : TotP (f_X12_asker_J197 m_t v197_t1) (fun (r : Int32 × TX12_t) => R32 (0) (0) r.2.1 ∧ R32 (0) (1) r.2.2.1 ∧ R32 (-1) (-1) r.2.2.2) := by
  unfold f_X12_asker_J197
  refine tp_e (f_X12_good.eq_1 _ _) ?_
  refine tp_nl ?_
  exact tp_s ⟨(r_n (x := (0 : Int32)) (l := 0) (h := 0) (by decide) (by decide)), (r_w (l' := 0) (h' := 1) (r_n (x := (0 : Int32)) (l := 0) (h := 0) (by decide) (by decide)) (by decide) (by decide)), (r_n (x := (-1 : Int32)) (l := -1) (h := -1) (by decide) (by decide))⟩
theorem t_f_X12_asker_J232 {m_t : TX12_t} {v232_t1 : Int32} (h_v232_t1 : R32 (0) (1) v232_t1) : TotP (f_X12_asker_J232 m_t v232_t1) (fun (r : Int32 × TX12_t) => R32 (0) (0) r.2.1 ∧ R32 (0) (1) r.2.2.1 ∧ R32 (-1) (-1) r.2.2.2) := by
  unfold f_X12_asker_J232
  refine tp_e (f_X12_good.eq_1 _ _) ?_
  refine tp_nl ?_
  exact tp_s ⟨(r_n (x := (0 : Int32)) (l := 0) (h := 0) (by decide) (by decide)), (r_w (l' := 0) (h' := 1) (r_n (x := (0 : Int32)) (l := 0) (h := 0) (by decide) (by decide)) (by decide) (by decide)), (r_n (x := (-1 : Int32)) (l := -1) (h := -1) (by decide) (by decide))⟩
theorem t_f_X12_asker_J231 {m_t : TX12_t} : TotP (f_X12_asker_J231 m_t) (fun (r : Int32 × TX12_t) => R32 (0) (0) r.2.1 ∧ R32 (0) (1) r.2.2.1 ∧ R32 (-1) (-1) r.2.2.2) := by
  unfold f_X12_asker_J231
  exact t_f_X12_asker_J232 (r_w (l' := 0) (h' := 1) (r_n (x := (0 : Int32)) (l := 0) (h := 0) (by decide) (by decide)) (by decide) (by decide))
theorem t_f_X12_asker_L44 {k1 : Int32} {k2 : Int32} {m_t : TX12_t} {m_v : TX12_v} {q_q : TX11_q} (h_k1 : R32 (0) (4) k1) (h_k2 : R32 (0) (5) k2) (h_q_q_1 : R32 (2) (8) q_q.1) (h_q_q_2_1 : R32 (1) (9) q_q.2.1) (h_q_q_2_2_2_2_1 : R32 (1) (4) q_q.2.2.2.2.1) (h_q_q_2_2_2_2_2_1 : R32 (1) (5) q_q.2.2.2.2.2.1) (h_q_q_2_2_2_2_2_2_1 : R32 (0) (6) q_q.2.2.2.2.2.2.1) (h_q_q_2_2_2_2_2_2_2_1 : R32 (0) (6) q_q.2.2.2.2.2.2.2.1) : ∀ (n : Nat) (v44_l5 : Int32) (v44_l4 : Int32), R32 (0) (6) v44_l5 → R32 (0) (63) v44_l4 → (6 : Int) - v44_l5.toInt < (n : Int) → TotP (f_X12_asker_L44 k1 k2 m_t m_v q_q n v44_l5 v44_l4) (fun (r : Int32 × TX12_t) => R32 (0) (0) r.2.1 ∧ R32 (0) (1) r.2.2.1 ∧ R32 (-1) (-1) r.2.2.2) := by
  intro n
  induction n with
  | zero =>
    intro v44_l5 v44_l4 h_v44_l5 h_v44_l4 hm
    exact (ms_0u h_v44_l5 hm).elim
  | succ n ih =>
    intro v44_l5 v44_l4 h_v44_l5 h_v44_l4 hm
    rw [f_X12_asker_L44]
    refine tp_if (fun c1 => ?_) (fun c1 => ?_)
    · skip
      refine tp_if (fun c2 => ?_) (fun c2 => ?_)
      · skip
        have r3 : R32 (0) (0) k2 := r_eq1 (l := 0) (h := 0) (by decide) (by decide) h_k2 (r_n (x := (0 : Int32)) (l := 0) (h := 0) (by decide) (by decide)) c2
        refine tp_g h_k1 (by decide) (by decide) ?_
        refine tp_e (f_X12_good.eq_1 _ _) ?_
        refine tp_nl ?_
        exact tp_s ⟨(r_n (x := (0 : Int32)) (l := 0) (h := 0) (by decide) (by decide)), (r_w (l' := 0) (h' := 1) (r_n (x := (0 : Int32)) (l := 0) (h := 0) (by decide) (by decide)) (by decide) (by decide)), (r_n (x := (-1 : Int32)) (l := -1) (h := -1) (by decide) (by decide))⟩
      · skip
        have r4 : R32 (1) (5) k2 := r_neL (by decide) h_k2 (r_n (x := (0 : Int32)) (l := 0) (h := 0) (by decide) (by decide)) c2
        refine tp_if (fun c5 => ?_) (fun c5 => ?_)
        · skip
          have r6 : R32 (1) (1) k2 := r_eq1 (l := 1) (h := 1) (by decide) (by decide) r4 (r_n (x := (1 : Int32)) (l := 1) (h := 1) (by decide) (by decide)) c5
          refine tp_if (fun c7 => ?_) (fun c7 => ?_)
          · skip
            have r8 : R32 (-2) (-2) (m_v (((18 : Int32) + k1)).toNatClampNeg) := r_eq1 (l := -2) (h := -2) (by decide) (by decide) (r_top _) (r_n (x := (-2 : Int32)) (l := -2) (h := -2) (by decide) (by decide)) c7
            exact t_f_X12_asker_J155 
          · skip
            refine tp_b (t_f_X12_spotOf h_q_q_1 h_q_q_2_1 h_q_q_2_2_2_2_1 (r_w (l' := 0) (h' := 5) h_q_q_2_2_2_2_2_1 (by decide) (by decide)) h_q_q_2_2_2_2_2_2_1 h_q_q_2_2_2_2_2_2_2_1) (fun o152 h9 => ?_)
            exact t_f_X12_asker_J155 
        · skip
          have r10 : R32 (2) (5) k2 := r_neL (by decide) r4 (r_n (x := (1 : Int32)) (l := 1) (h := 1) (by decide) (by decide)) c5
          refine tp_if (fun c11 => ?_) (fun c11 => ?_)
          · skip
            have r12 : R32 (2) (2) k2 := r_eq1 (l := 2) (h := 2) (by decide) (by decide) r10 (r_n (x := (2 : Int32)) (l := 2) (h := 2) (by decide) (by decide)) c11
            refine tp_if (fun c13 => ?_) (fun c13 => ?_)
            · skip
              have r14 : R32 (-2) (-2) (m_v (((18 : Int32) + k1)).toNatClampNeg) := r_eq1 (l := -2) (h := -2) (by decide) (by decide) (r_top _) (r_n (x := (-2 : Int32)) (l := -2) (h := -2) (by decide) (by decide)) c13
              exact t_f_X12_asker_J176 
            · skip
              refine tp_b (t_f_X12_fathomsOf h_q_q_1 h_q_q_2_1 h_q_q_2_2_2_2_1 (r_w (l' := 0) (h' := 5) h_q_q_2_2_2_2_2_1 (by decide) (by decide)) h_q_q_2_2_2_2_2_2_1 h_q_q_2_2_2_2_2_2_2_1) (fun o173 h15 => ?_)
              exact t_f_X12_asker_J176 
          · skip
            have r16 : R32 (3) (5) k2 := r_neL (by decide) r10 (r_n (x := (2 : Int32)) (l := 2) (h := 2) (by decide) (by decide)) c11
            refine tp_if (fun c17 => ?_) (fun c17 => ?_)
            · skip
              have r18 : R32 (3) (3) k2 := r_eq1 (l := 3) (h := 3) (by decide) (by decide) r16 (r_n (x := (3 : Int32)) (l := 3) (h := 3) (by decide) (by decide)) c17
              refine tp_if (fun c19 => ?_) (fun c19 => ?_)
              · skip
                have r20 : R32 (-2) (-2) (m_v (((18 : Int32) + k1)).toNatClampNeg) := r_eq1 (l := -2) (h := -2) (by decide) (by decide) (r_top _) (r_n (x := (-2 : Int32)) (l := -2) (h := -2) (by decide) (by decide)) c19
                exact t_f_X12_asker_J197 
              · skip
                refine tp_b (t_f_X12_baitOf h_q_q_1 h_q_q_2_1 h_q_q_2_2_2_2_1 (r_w (l' := 0) (h' := 5) h_q_q_2_2_2_2_2_1 (by decide) (by decide)) h_q_q_2_2_2_2_2_2_1 h_q_q_2_2_2_2_2_2_2_1) (fun o194 h21 => ?_)
                exact t_f_X12_asker_J197 
            · skip
              have r22 : R32 (4) (5) k2 := r_neL (by decide) r16 (r_n (x := (3 : Int32)) (l := 3) (h := 3) (by decide) (by decide)) c17
              refine tp_if (fun c23 => ?_) (fun c23 => ?_)
              · skip
                have r24 : R32 (4) (4) k2 := r_eq1 (l := 4) (h := 4) (by decide) (by decide) r22 (r_n (x := (4 : Int32)) (l := 4) (h := 4) (by decide) (by decide)) c23
                refine tp_e (f_X12_good.eq_1 _ _) ?_
                refine tp_nl ?_
                exact tp_s ⟨(r_n (x := (0 : Int32)) (l := 0) (h := 0) (by decide) (by decide)), (r_w (l' := 0) (h' := 1) (r_n (x := (0 : Int32)) (l := 0) (h := 0) (by decide) (by decide)) (by decide) (by decide)), (r_n (x := (-1 : Int32)) (l := -1) (h := -1) (by decide) (by decide))⟩
              · skip
                have r25 : R32 (5) (5) k2 := r_neL (by decide) r22 (r_n (x := (4 : Int32)) (l := 4) (h := 4) (by decide) (by decide)) c23
                refine tp_if (fun c26 => ?_) (fun c26 => ?_)
                · skip
                  have r27 : R32 (-2) (-2) (m_v (((18 : Int32) + k1)).toNatClampNeg) := r_eq1 (l := -2) (h := -2) (by decide) (by decide) (r_top _) (r_n (x := (-2 : Int32)) (l := -2) (h := -2) (by decide) (by decide)) c26
                  exact t_f_X12_asker_J231 
                · skip
                  refine tp_b (t_f_X12_isTangled h_k1 h_q_q_1 h_q_q_2_1 h_q_q_2_2_2_2_1 h_q_q_2_2_2_2_2_1 h_q_q_2_2_2_2_2_2_1 h_q_q_2_2_2_2_2_2_2_1) (fun o221 h28 => ?_)
                  refine tp_if (fun c29 => ?_) (fun c29 => ?_)
                  · skip
                    have r30 : R32 (0) (0) o221 := r_eq1 (l := 0) (h := 0) (by decide) (by decide) h28 (r_n (x := (0 : Int32)) (l := 0) (h := 0) (by decide) (by decide)) c29
                    exact t_f_X12_asker_J231 
                  · skip
                    have r31 : R32 (1) (1) o221 := r_neL (by decide) h28 (r_n (x := (0 : Int32)) (l := 0) (h := 0) (by decide) (by decide)) c29
                    exact t_f_X12_asker_J232 (r_w (l' := 0) (h' := 1) (r_n (x := (1 : Int32)) (l := 1) (h := 1) (by decide) (by decide)) (by decide) (by decide))
    · skip
      have r32 : R32 (1) (6) q_q.2.2.2.2.2.2.1 := r_nle1 (by decide) h_q_q_2_2_2_2_2_2_1 h_v44_l5 c1
      have r33 : R32 (0) (5) v44_l5 := r_nle2 (by decide) h_q_q_2_2_2_2_2_2_1 h_v44_l5 c1
      refine tp_g (r_add (l := 12) (h := 17) (r_n (x := (12 : Int32)) (l := 12) (h := 12) (by decide) (by decide)) r33 (by decide) (by decide) (by decide) (by decide)) (by decide) (by decide) ?_
      refine tp_if (fun c34 => ?_) (fun c34 => ?_)
      · skip
        have r35 : R32 (0) (4) (m_v (((12 : Int32) + v44_l5)).toNatClampNeg) := r_eq1 (l := 0) (h := 4) (by decide) (by decide) (r_top _) h_k1 c34
        exact t_f_X12_asker_J80 ih hm h_v44_l4 r33 (r_w (l' := 0) (h' := 32) (r_shl 0 5 (l := 1) (h := 32) r33 (by decide) (by decide) (by decide)) (by decide) (by decide))
      · skip
        exact t_f_X12_asker_J80 ih hm h_v44_l4 r33 (r_w (l' := 0) (h' := 32) (r_n (x := (0 : Int32)) (l := 0) (h := 0) (by decide) (by decide)) (by decide) (by decide))
theorem t_f_X12_asker {k1 : Int32} {k2 : Int32} {m_t : TX12_t} {m_v : TX12_v} {q_q : TX11_q} (h_q_q_1 : R32 (2) (8) q_q.1) (h_q_q_2_1 : R32 (1) (9) q_q.2.1) (h_q_q_2_2_2_2_1 : R32 (1) (4) q_q.2.2.2.2.1) (h_q_q_2_2_2_2_2_1 : R32 (0) (5) q_q.2.2.2.2.2.1) (h_q_q_2_2_2_2_2_2_1 : R32 (0) (6) q_q.2.2.2.2.2.2.1) (h_q_q_2_2_2_2_2_2_2_1 : R32 (0) (6) q_q.2.2.2.2.2.2.2.1) : TotP (f_X12_asker k1 k2 m_t m_v q_q) (fun (r : Int32 × TX12_t) => R32 (0) (0) r.2.1 ∧ R32 (0) (1) r.2.2.1 ∧ R32 (-1) (-1) r.2.2.2) := by
  unfold f_X12_asker
  refine tp_e (f_X12_isAsker.eq_1 _ _) ?_
  refine tp_nif (fun c1 => ?_) (fun c1 => ?_)
  · skip
    have r2 : R32 (-2147483648) (-1) k1 := r_lt1 (by decide) (r_top _) (r_n (x := (0 : Int32)) (l := 0) (h := 0) (by decide) (by decide)) c1
    refine tp_nl ?_
    refine tp_ift (d_eq (r_n (x := (0 : Int32)) (l := 0) (h := 0) (by decide) (by decide)) (r_n (x := (0 : Int32)) (l := 0) (h := 0) (by decide) (by decide))) ?_
    exact t_f_X12_asker_J22 
  · skip
    have r3 : R32 (0) (2147483647) k1 := r_nlt1 (r_top _) (r_n (x := (0 : Int32)) (l := 0) (h := 0) (by decide) (by decide)) c1
    refine tp_nif (fun c4 => ?_) (fun c4 => ?_)
    · skip
      refine tp_nl ?_
      refine tp_ift (d_eq (r_n (x := (0 : Int32)) (l := 0) (h := 0) (by decide) (by decide)) (r_n (x := (0 : Int32)) (l := 0) (h := 0) (by decide) (by decide))) ?_
      exact t_f_X12_asker_J22 
    · skip
      have r5 : R32 (1) (5) q_q.2.2.2.2.2.1 := r_nle1 (by decide) h_q_q_2_2_2_2_2_1 r3 c4
      have r6 : R32 (0) (4) k1 := r_nle2 (by decide) h_q_q_2_2_2_2_2_1 r3 c4
      refine tp_nl ?_
      refine tp_iff (d_ne2 (r_n (x := (1 : Int32)) (l := 1) (h := 1) (by decide) (by decide)) (r_n (x := (0 : Int32)) (l := 0) (h := 0) (by decide) (by decide)) (by decide)) ?_
      refine tp_e (f_X12_in.eq_1 _ _ _) ?_
      refine tp_nif (fun c7 => ?_) (fun c7 => ?_)
      · skip
        have r8 : R32 (-2147483648) (-1) k2 := r_lt1 (by decide) (r_top _) (r_n (x := (0 : Int32)) (l := 0) (h := 0) (by decide) (by decide)) c7
        refine tp_nl ?_
        refine tp_ift (d_eq (r_n (x := (0 : Int32)) (l := 0) (h := 0) (by decide) (by decide)) (r_n (x := (0 : Int32)) (l := 0) (h := 0) (by decide) (by decide))) ?_
        exact t_f_X12_asker_J22 
      · skip
        have r9 : R32 (0) (2147483647) k2 := r_nlt1 (r_top _) (r_n (x := (0 : Int32)) (l := 0) (h := 0) (by decide) (by decide)) c7
        refine tp_nif (fun c10 => ?_) (fun c10 => ?_)
        · skip
          have r11 : R32 (6) (2147483647) k2 := r_lt2 (by decide) (r_n (x := (5 : Int32)) (l := 5) (h := 5) (by decide) (by decide)) r9 c10
          refine tp_nl ?_
          refine tp_ift (d_eq (r_n (x := (0 : Int32)) (l := 0) (h := 0) (by decide) (by decide)) (r_n (x := (0 : Int32)) (l := 0) (h := 0) (by decide) (by decide))) ?_
          exact t_f_X12_asker_J22 
        · skip
          have r12 : R32 (0) (5) k2 := r_nlt2 (r_n (x := (5 : Int32)) (l := 5) (h := 5) (by decide) (by decide)) r9 c10
          refine tp_nl ?_
          refine tp_iff (d_ne2 (r_n (x := (1 : Int32)) (l := 1) (h := 1) (by decide) (by decide)) (r_n (x := (0 : Int32)) (l := 0) (h := 0) (by decide) (by decide)) (by decide)) ?_
          refine tp_g (r_add (l := 18) (h := 22) (r_n (x := (18 : Int32)) (l := 18) (h := 18) (by decide) (by decide)) r6 (by decide) (by decide) (by decide) (by decide)) (by decide) (by decide) ?_
          exact t_f_X12_asker_L44 r6 r12 h_q_q_1 h_q_q_2_1 h_q_q_2_2_2_2_1 r5 h_q_q_2_2_2_2_2_2_1 h_q_q_2_2_2_2_2_2_2_1 FU _ _ (r_w (l' := 0) (h' := 6) (r_n (x := (0 : Int32)) (l := 0) (h := 0) (by decide) (by decide)) (by decide) (by decide)) (r_w (l' := 0) (h' := 63) (r_n (x := (0 : Int32)) (l := 0) (h := 0) (by decide) (by decide)) (by decide) (by decide)) (fu_up (r_w (l' := 0) (h' := 6) (r_n (x := (0 : Int32)) (l := 0) (h := 0) (by decide) (by decide)) (by decide) (by decide)) (by decide))
theorem t_f_X12_wish {k1 : Int32} {k2 : Int32} {k3 : Int32} {k4 : Int32} {m_t : TX12_t} {q_q : TX11_q} (h_q_q_1 : R32 (2) (8) q_q.1) (h_q_q_2_1 : R32 (1) (9) q_q.2.1) (h_q_q_2_2_2_2_1 : R32 (1) (4) q_q.2.2.2.2.1) (h_q_q_2_2_2_2_2_1 : R32 (0) (5) q_q.2.2.2.2.2.1) (h_q_q_2_2_2_2_2_2_1 : R32 (0) (6) q_q.2.2.2.2.2.2.1) (h_q_q_2_2_2_2_2_2_2_1 : R32 (0) (6) q_q.2.2.2.2.2.2.2.1) : TotP (f_X12_wish k1 k2 k3 k4 m_t q_q) (fun (r : Int32 × TX12_t) => R32 (-1) (100) r.1 ∧ R32 (0) (0) r.2.1 ∧ R32 (0) (2) r.2.2.1 ∧ R32 (-1) (-1) r.2.2.2) := by
  unfold f_X12_wish
  refine tp_e (f_X12_isAnswer.eq_1 _ _) ?_
  refine tp_nif (fun c1 => ?_) (fun c1 => ?_)
  · skip
    have r2 : R32 (-2147483648) (-1) k1 := r_lt1 (by decide) (r_top _) (r_n (x := (0 : Int32)) (l := 0) (h := 0) (by decide) (by decide)) c1
    refine tp_nl ?_
    refine tp_e (f_X12_refusesQuestion.eq_1 _ _ _ _ _) ?_
    refine tp_nift (d_eq (r_n (x := (0 : Int32)) (l := 0) (h := 0) (by decide) (by decide)) (r_n (x := (0 : Int32)) (l := 0) (h := 0) (by decide) (by decide))) ?_
    refine tp_nl ?_
    refine tp_iff (d_nle (r_n (x := (1 : Int32)) (l := 1) (h := 1) (by decide) (by decide)) (r_n (x := (0 : Int32)) (l := 0) (h := 0) (by decide) (by decide)) (by decide)) ?_
    refine tp_e (f_X12_refused.eq_1 _ _) ?_
    refine tp_nl ?_
    exact tp_s ⟨(r_w (l' := -1) (h' := 100) (r_n (x := (-1 : Int32)) (l := -1) (h := -1) (by decide) (by decide)) (by decide) (by decide)), (r_n (x := (0 : Int32)) (l := 0) (h := 0) (by decide) (by decide)), (r_w (l' := 0) (h' := 2) (r_n (x := (1 : Int32)) (l := 1) (h := 1) (by decide) (by decide)) (by decide) (by decide)), (r_n (x := (-1 : Int32)) (l := -1) (h := -1) (by decide) (by decide))⟩
  · skip
    have r3 : R32 (0) (2147483647) k1 := r_nlt1 (r_top _) (r_n (x := (0 : Int32)) (l := 0) (h := 0) (by decide) (by decide)) c1
    refine tp_nif (fun c4 => ?_) (fun c4 => ?_)
    · skip
      refine tp_nl ?_
      refine tp_e (f_X12_refusesQuestion.eq_1 _ _ _ _ _) ?_
      refine tp_nift (d_eq (r_n (x := (0 : Int32)) (l := 0) (h := 0) (by decide) (by decide)) (r_n (x := (0 : Int32)) (l := 0) (h := 0) (by decide) (by decide))) ?_
      refine tp_nl ?_
      refine tp_iff (d_nle (r_n (x := (1 : Int32)) (l := 1) (h := 1) (by decide) (by decide)) (r_n (x := (0 : Int32)) (l := 0) (h := 0) (by decide) (by decide)) (by decide)) ?_
      refine tp_e (f_X12_refused.eq_1 _ _) ?_
      refine tp_nl ?_
      exact tp_s ⟨(r_w (l' := -1) (h' := 100) (r_n (x := (-1 : Int32)) (l := -1) (h := -1) (by decide) (by decide)) (by decide) (by decide)), (r_n (x := (0 : Int32)) (l := 0) (h := 0) (by decide) (by decide)), (r_w (l' := 0) (h' := 2) (r_n (x := (1 : Int32)) (l := 1) (h := 1) (by decide) (by decide)) (by decide) (by decide)), (r_n (x := (-1 : Int32)) (l := -1) (h := -1) (by decide) (by decide))⟩
    · skip
      have r5 : R32 (1) (6) q_q.2.2.2.2.2.2.1 := r_nle1 (by decide) h_q_q_2_2_2_2_2_2_1 r3 c4
      have r6 : R32 (0) (5) k1 := r_nle2 (by decide) h_q_q_2_2_2_2_2_2_1 r3 c4
      refine tp_nl ?_
      refine tp_e (f_X12_refusesQuestion.eq_1 _ _ _ _ _) ?_
      refine tp_niff (d_ne2 (r_n (x := (1 : Int32)) (l := 1) (h := 1) (by decide) (by decide)) (r_n (x := (0 : Int32)) (l := 0) (h := 0) (by decide) (by decide)) (by decide)) ?_
      refine tp_nn ?_
      refine tp_e (f_X12_in.eq_1 _ _ _) ?_
      refine tp_nif (fun c7 => ?_) (fun c7 => ?_)
      · skip
        have r8 : R32 (-2147483648) (-1) k2 := r_lt1 (by decide) (r_top _) (r_n (x := (0 : Int32)) (l := 0) (h := 0) (by decide) (by decide)) c7
        refine tp_nl ?_
        refine tp_nift (d_eq (r_n (x := (0 : Int32)) (l := 0) (h := 0) (by decide) (by decide)) (r_n (x := (0 : Int32)) (l := 0) (h := 0) (by decide) (by decide))) ?_
        refine tp_nl ?_
        refine tp_iff (d_nle (r_n (x := (1 : Int32)) (l := 1) (h := 1) (by decide) (by decide)) (r_n (x := (0 : Int32)) (l := 0) (h := 0) (by decide) (by decide)) (by decide)) ?_
        refine tp_e (f_X12_refused.eq_1 _ _) ?_
        refine tp_nl ?_
        exact tp_s ⟨(r_w (l' := -1) (h' := 100) (r_n (x := (-1 : Int32)) (l := -1) (h := -1) (by decide) (by decide)) (by decide) (by decide)), (r_n (x := (0 : Int32)) (l := 0) (h := 0) (by decide) (by decide)), (r_w (l' := 0) (h' := 2) (r_n (x := (1 : Int32)) (l := 1) (h := 1) (by decide) (by decide)) (by decide) (by decide)), (r_n (x := (-1 : Int32)) (l := -1) (h := -1) (by decide) (by decide))⟩
      · skip
        have r9 : R32 (0) (2147483647) k2 := r_nlt1 (r_top _) (r_n (x := (0 : Int32)) (l := 0) (h := 0) (by decide) (by decide)) c7
        refine tp_nif (fun c10 => ?_) (fun c10 => ?_)
        · skip
          have r11 : R32 (2) (2147483647) k2 := r_lt2 (by decide) (r_sub (l := 1) (h := 7) h_q_q_1 (r_n (x := (1 : Int32)) (l := 1) (h := 1) (by decide) (by decide)) (by decide) (by decide) (by decide) (by decide)) r9 c10
          refine tp_nl ?_
          refine tp_nift (d_eq (r_n (x := (0 : Int32)) (l := 0) (h := 0) (by decide) (by decide)) (r_n (x := (0 : Int32)) (l := 0) (h := 0) (by decide) (by decide))) ?_
          refine tp_nl ?_
          refine tp_iff (d_nle (r_n (x := (1 : Int32)) (l := 1) (h := 1) (by decide) (by decide)) (r_n (x := (0 : Int32)) (l := 0) (h := 0) (by decide) (by decide)) (by decide)) ?_
          refine tp_e (f_X12_refused.eq_1 _ _) ?_
          refine tp_nl ?_
          exact tp_s ⟨(r_w (l' := -1) (h' := 100) (r_n (x := (-1 : Int32)) (l := -1) (h := -1) (by decide) (by decide)) (by decide) (by decide)), (r_n (x := (0 : Int32)) (l := 0) (h := 0) (by decide) (by decide)), (r_w (l' := 0) (h' := 2) (r_n (x := (1 : Int32)) (l := 1) (h := 1) (by decide) (by decide)) (by decide) (by decide)), (r_n (x := (-1 : Int32)) (l := -1) (h := -1) (by decide) (by decide))⟩
        · skip
          have r12 : R32 (0) (7) k2 := r_nlt2 (r_sub (l := 1) (h := 7) h_q_q_1 (r_n (x := (1 : Int32)) (l := 1) (h := 1) (by decide) (by decide)) (by decide) (by decide) (by decide) (by decide)) r9 c10
          refine tp_nl ?_
          refine tp_niff (d_ne2 (r_n (x := (1 : Int32)) (l := 1) (h := 1) (by decide) (by decide)) (r_n (x := (0 : Int32)) (l := 0) (h := 0) (by decide) (by decide)) (by decide)) ?_
          refine tp_nn ?_
          refine tp_e (f_X12_in.eq_1 _ _ _) ?_
          refine tp_nif (fun c13 => ?_) (fun c13 => ?_)
          · skip
            have r14 : R32 (-2147483648) (-1) k4 := r_lt1 (by decide) (r_top _) (r_n (x := (0 : Int32)) (l := 0) (h := 0) (by decide) (by decide)) c13
            refine tp_nl ?_
            refine tp_nift (d_eq (r_n (x := (0 : Int32)) (l := 0) (h := 0) (by decide) (by decide)) (r_n (x := (0 : Int32)) (l := 0) (h := 0) (by decide) (by decide))) ?_
            refine tp_nl ?_
            refine tp_iff (d_nle (r_n (x := (1 : Int32)) (l := 1) (h := 1) (by decide) (by decide)) (r_n (x := (0 : Int32)) (l := 0) (h := 0) (by decide) (by decide)) (by decide)) ?_
            refine tp_e (f_X12_refused.eq_1 _ _) ?_
            refine tp_nl ?_
            exact tp_s ⟨(r_w (l' := -1) (h' := 100) (r_n (x := (-1 : Int32)) (l := -1) (h := -1) (by decide) (by decide)) (by decide) (by decide)), (r_n (x := (0 : Int32)) (l := 0) (h := 0) (by decide) (by decide)), (r_w (l' := 0) (h' := 2) (r_n (x := (1 : Int32)) (l := 1) (h := 1) (by decide) (by decide)) (by decide) (by decide)), (r_n (x := (-1 : Int32)) (l := -1) (h := -1) (by decide) (by decide))⟩
          · skip
            have r15 : R32 (0) (2147483647) k4 := r_nlt1 (r_top _) (r_n (x := (0 : Int32)) (l := 0) (h := 0) (by decide) (by decide)) c13
            refine tp_nif (fun c16 => ?_) (fun c16 => ?_)
            · skip
              have r17 : R32 (1) (2147483647) k4 := r_lt2 (by decide) (r_sub (l := 0) (h := 3) h_q_q_2_2_2_2_1 (r_n (x := (1 : Int32)) (l := 1) (h := 1) (by decide) (by decide)) (by decide) (by decide) (by decide) (by decide)) r15 c16
              refine tp_nl ?_
              refine tp_nift (d_eq (r_n (x := (0 : Int32)) (l := 0) (h := 0) (by decide) (by decide)) (r_n (x := (0 : Int32)) (l := 0) (h := 0) (by decide) (by decide))) ?_
              refine tp_nl ?_
              refine tp_iff (d_nle (r_n (x := (1 : Int32)) (l := 1) (h := 1) (by decide) (by decide)) (r_n (x := (0 : Int32)) (l := 0) (h := 0) (by decide) (by decide)) (by decide)) ?_
              refine tp_e (f_X12_refused.eq_1 _ _) ?_
              refine tp_nl ?_
              exact tp_s ⟨(r_w (l' := -1) (h' := 100) (r_n (x := (-1 : Int32)) (l := -1) (h := -1) (by decide) (by decide)) (by decide) (by decide)), (r_n (x := (0 : Int32)) (l := 0) (h := 0) (by decide) (by decide)), (r_w (l' := 0) (h' := 2) (r_n (x := (1 : Int32)) (l := 1) (h := 1) (by decide) (by decide)) (by decide) (by decide)), (r_n (x := (-1 : Int32)) (l := -1) (h := -1) (by decide) (by decide))⟩
            · skip
              have r18 : R32 (0) (3) k4 := r_nlt2 (r_sub (l := 0) (h := 3) h_q_q_2_2_2_2_1 (r_n (x := (1 : Int32)) (l := 1) (h := 1) (by decide) (by decide)) (by decide) (by decide) (by decide) (by decide)) r15 c16
              refine tp_nl ?_
              refine tp_niff (d_ne2 (r_n (x := (1 : Int32)) (l := 1) (h := 1) (by decide) (by decide)) (r_n (x := (0 : Int32)) (l := 0) (h := 0) (by decide) (by decide)) (by decide)) ?_
              refine tp_nn ?_
              refine tp_e (f_X12_in.eq_1 _ _ _) ?_
              refine tp_nif (fun c19 => ?_) (fun c19 => ?_)
              · skip
                have r20 : R32 (-2147483648) (0) k3 := r_lt1 (by decide) (r_top _) (r_n (x := (1 : Int32)) (l := 1) (h := 1) (by decide) (by decide)) c19
                refine tp_nl ?_
                refine tp_nift (d_eq (r_n (x := (0 : Int32)) (l := 0) (h := 0) (by decide) (by decide)) (r_n (x := (0 : Int32)) (l := 0) (h := 0) (by decide) (by decide))) ?_
                refine tp_nl ?_
                refine tp_iff (d_nle (r_n (x := (2 : Int32)) (l := 2) (h := 2) (by decide) (by decide)) (r_n (x := (0 : Int32)) (l := 0) (h := 0) (by decide) (by decide)) (by decide)) ?_
                refine tp_e (f_X12_refused.eq_1 _ _) ?_
                refine tp_nl ?_
                exact tp_s ⟨(r_w (l' := -1) (h' := 100) (r_n (x := (-1 : Int32)) (l := -1) (h := -1) (by decide) (by decide)) (by decide) (by decide)), (r_n (x := (0 : Int32)) (l := 0) (h := 0) (by decide) (by decide)), (r_w (l' := 0) (h' := 2) (r_n (x := (2 : Int32)) (l := 2) (h := 2) (by decide) (by decide)) (by decide) (by decide)), (r_n (x := (-1 : Int32)) (l := -1) (h := -1) (by decide) (by decide))⟩
              · skip
                have r21 : R32 (1) (2147483647) k3 := r_nlt1 (r_top _) (r_n (x := (1 : Int32)) (l := 1) (h := 1) (by decide) (by decide)) c19
                refine tp_nif (fun c22 => ?_) (fun c22 => ?_)
                · skip
                  have r23 : R32 (2) (2147483647) k3 := r_lt2 (by decide) h_q_q_2_1 r21 c22
                  refine tp_nl ?_
                  refine tp_nift (d_eq (r_n (x := (0 : Int32)) (l := 0) (h := 0) (by decide) (by decide)) (r_n (x := (0 : Int32)) (l := 0) (h := 0) (by decide) (by decide))) ?_
                  refine tp_nl ?_
                  refine tp_iff (d_nle (r_n (x := (2 : Int32)) (l := 2) (h := 2) (by decide) (by decide)) (r_n (x := (0 : Int32)) (l := 0) (h := 0) (by decide) (by decide)) (by decide)) ?_
                  refine tp_e (f_X12_refused.eq_1 _ _) ?_
                  refine tp_nl ?_
                  exact tp_s ⟨(r_w (l' := -1) (h' := 100) (r_n (x := (-1 : Int32)) (l := -1) (h := -1) (by decide) (by decide)) (by decide) (by decide)), (r_n (x := (0 : Int32)) (l := 0) (h := 0) (by decide) (by decide)), (r_w (l' := 0) (h' := 2) (r_n (x := (2 : Int32)) (l := 2) (h := 2) (by decide) (by decide)) (by decide) (by decide)), (r_n (x := (-1 : Int32)) (l := -1) (h := -1) (by decide) (by decide))⟩
                · skip
                  have r24 : R32 (1) (9) k3 := r_nlt2 h_q_q_2_1 r21 c22
                  refine tp_nl ?_
                  refine tp_niff (d_ne2 (r_n (x := (1 : Int32)) (l := 1) (h := 1) (by decide) (by decide)) (r_n (x := (0 : Int32)) (l := 0) (h := 0) (by decide) (by decide)) (by decide)) ?_
                  refine tp_nl ?_
                  refine tp_ift (d_le (r_n (x := (0 : Int32)) (l := 0) (h := 0) (by decide) (by decide)) (r_n (x := (0 : Int32)) (l := 0) (h := 0) (by decide) (by decide)) (by decide)) ?_
                  refine tp_b (t_f_X11_wish r6 h_q_q_1 h_q_q_2_1 h_q_q_2_2_2_2_1 h_q_q_2_2_2_2_2_1 r5 h_q_q_2_2_2_2_2_2_2_1) (fun o44 h25 => ?_)
                  refine tp_e (f_X12_good.eq_1 _ _) ?_
                  refine tp_nl ?_
                  exact tp_s ⟨(r_w (l' := -1) (h' := 100) h25 (by decide) (by decide)), (r_n (x := (0 : Int32)) (l := 0) (h := 0) (by decide) (by decide)), (r_w (l' := 0) (h' := 2) (r_n (x := (0 : Int32)) (l := 0) (h := 0) (by decide) (by decide)) (by decide) (by decide)), (r_n (x := (-1 : Int32)) (l := -1) (h := -1) (by decide) (by decide))⟩
theorem t_f_X12_oddsOf_J89 {k18_ : Int32 → Int64 → Option Int64} {v18_l5 : Int32} {v89_l3 : Int64} {N18 : Nat} (hk18 : ∀ (v18_l5 : Int32) (v18_l3 : Int64), R32 (0) (6) v18_l5 → (6 : Int) - v18_l5.toInt < (N18 : Nat) → TotP (k18_ v18_l5 v18_l3) (fun (r : Int64) => True)) (hm18 : (6 : Int) - v18_l5.toInt < ((N18 + 1 : Nat) : Int)) (h_v18_l5 : R32 (0) (5) v18_l5) : TotP (f_X12_oddsOf_J89 k18_ v18_l5 v89_l3) (fun (r : Int64) => True) := by
  unfold f_X12_oddsOf_J89
  exact hk18 _ _ (r_w (l' := 0) (h' := 6) (r_add (l := 1) (h := 6) h_v18_l5 (r_n (x := (1 : Int32)) (l := 1) (h := 1) (by decide) (by decide)) (by decide) (by decide) (by decide) (by decide)) (by decide) (by decide)) (ms_up (y := (1 : Int32)) h_v18_l5 (by decide) (by decide) (by decide) hm18)
theorem t_f_X12_oddsOf_J87 {k18_ : Int32 → Int64 → Option Int64} {v18_l3 : Int64} {v18_l5 : Int32} {v87_t1 : Int64} {N18 : Nat} (hk18 : ∀ (v18_l5 : Int32) (v18_l3 : Int64), R32 (0) (6) v18_l5 → (6 : Int) - v18_l5.toInt < (N18 : Nat) → TotP (k18_ v18_l5 v18_l3) (fun (r : Int64) => True)) (hm18 : (6 : Int) - v18_l5.toInt < ((N18 + 1 : Nat) : Int)) (h_v18_l5 : R32 (0) (5) v18_l5) : TotP (f_X12_oddsOf_J87 k18_ v18_l3 v18_l5 v87_t1) (fun (r : Int64) => True) := by
  unfold f_X12_oddsOf_J87
  exact t_f_X12_oddsOf_J89 hk18 hm18 h_v18_l5
theorem t_f_X12_oddsOf_L18 {k1 : Int32} {k2 : Int32} {m_v : TX12_v} {q_q : TX11_q} (h_k1 : R32 (0) (5) k1) (h_k2 : R32 (-1) (287) k2) (h_q_q_1 : R32 (2) (8) q_q.1) (h_q_q_2_1 : R32 (1) (9) q_q.2.1) (h_q_q_2_2_2_2_1 : R32 (1) (4) q_q.2.2.2.2.1) (h_q_q_2_2_2_2_2_1 : R32 (0) (5) q_q.2.2.2.2.2.1) (h_q_q_2_2_2_2_2_2_1 : R32 (1) (6) q_q.2.2.2.2.2.2.1) (h_q_q_2_2_2_2_2_2_2_1 : R32 (0) (6) q_q.2.2.2.2.2.2.2.1) : ∀ (n : Nat) (v18_l5 : Int32) (v18_l3 : Int64), R32 (0) (6) v18_l5 → (6 : Int) - v18_l5.toInt < (n : Int) → TotP (f_X12_oddsOf_L18 k1 k2 m_v q_q n v18_l5 v18_l3) (fun (r : Int64) => True) := by
  intro n
  induction n with
  | zero =>
    intro v18_l5 v18_l3 h_v18_l5 hm
    exact (ms_0u h_v18_l5 hm).elim
  | succ n ih =>
    intro v18_l5 v18_l3 h_v18_l5 hm
    rw [f_X12_oddsOf_L18]
    refine tp_if (fun c1 => ?_) (fun c1 => ?_)
    · skip
      have r2 : R32 (1) (6) v18_l5 := r_le2 h_q_q_2_2_2_2_2_2_1 h_v18_l5 c1
      exact tp_s trivial
    · skip
      have r3 : R32 (0) (5) v18_l5 := r_nle2 (by decide) h_q_q_2_2_2_2_2_2_1 h_v18_l5 c1
      refine tp_g (r_add (l := 0) (h := 5) (r_n (x := (0 : Int32)) (l := 0) (h := 0) (by decide) (by decide)) r3 (by decide) (by decide) (by decide) (by decide)) (by decide) (by decide) ?_
      refine tp_if (fun c4 => ?_) (fun c4 => ?_)
      · skip
        have r5 : R32 (0) (0) (m_v (((0 : Int32) + v18_l5)).toNatClampNeg) := r_eq1 (l := 0) (h := 0) (by decide) (by decide) (r_top _) (r_n (x := (0 : Int32)) (l := 0) (h := 0) (by decide) (by decide)) c4
        refine tp_if (fun c6 => ?_) (fun c6 => ?_)
        · skip
          refine tp_if (fun c7 => ?_) (fun c7 => ?_)
          · skip
            refine tp_b (t_f_X12_wishOf r3 h_q_q_1 h_q_q_2_1 h_q_q_2_2_2_2_1 h_q_q_2_2_2_2_2_1 h_q_q_2_2_2_2_2_2_1 h_q_q_2_2_2_2_2_2_2_1) (fun o77 h8 => ?_)
            exact t_f_X12_oddsOf_J87 ih hm r3
          · skip
            exact t_f_X12_oddsOf_J87 ih hm r3
        · skip
          have r9 : R32 (1) (5) k1 := r_nle1 (by decide) h_k1 r3 c6
          have r10 : R32 (0) (4) v18_l5 := r_nle2 (by decide) h_k1 r3 c6
          refine tp_b (t_f_X12_wishOf (r_w (l' := 0) (h' := 5) r10 (by decide) (by decide)) h_q_q_1 h_q_q_2_1 h_q_q_2_2_2_2_1 h_q_q_2_2_2_2_2_1 h_q_q_2_2_2_2_2_2_1 h_q_q_2_2_2_2_2_2_2_1) (fun o59 h11 => ?_)
          exact t_f_X12_oddsOf_J87 ih hm (r_w (l' := 0) (h' := 5) r10 (by decide) (by decide))
      · skip
        exact t_f_X12_oddsOf_J89 ih hm r3
theorem t_f_X12_oddsOf {k1 : Int32} {k2 : Int32} {m_v : TX12_v} {q_q : TX11_q} (h_k1 : R32 (0) (5) k1) (h_k2 : R32 (-1) (287) k2) (h_q_q_1 : R32 (2) (8) q_q.1) (h_q_q_2_1 : R32 (1) (9) q_q.2.1) (h_q_q_2_2_2_2_1 : R32 (1) (4) q_q.2.2.2.2.1) (h_q_q_2_2_2_2_2_1 : R32 (0) (5) q_q.2.2.2.2.2.1) (h_q_q_2_2_2_2_2_2_1 : R32 (1) (6) q_q.2.2.2.2.2.2.1) (h_q_q_2_2_2_2_2_2_2_1 : R32 (0) (6) q_q.2.2.2.2.2.2.2.1) : TotP (f_X12_oddsOf k1 k2 m_v q_q) (fun (r : Int64) => True) := by
  unfold f_X12_oddsOf
  refine tp_g (r_add (l := 0) (h := 5) (r_n (x := (0 : Int32)) (l := 0) (h := 0) (by decide) (by decide)) h_k1 (by decide) (by decide) (by decide) (by decide)) (by decide) (by decide) ?_
  refine tp_if (fun c1 => ?_) (fun c1 => ?_)
  · skip
    have r2 : R32 (0) (0) (m_v (((0 : Int32) + k1)).toNatClampNeg) := r_eq1 (l := 0) (h := 0) (by decide) (by decide) (r_top _) (r_n (x := (0 : Int32)) (l := 0) (h := 0) (by decide) (by decide)) c1
    exact t_f_X12_oddsOf_L18 h_k1 h_k2 h_q_q_1 h_q_q_2_1 h_q_q_2_2_2_2_1 h_q_q_2_2_2_2_2_1 h_q_q_2_2_2_2_2_2_1 h_q_q_2_2_2_2_2_2_2_1 FU _ _ (r_w (l' := 0) (h' := 6) (r_n (x := (0 : Int32)) (l := 0) (h := 0) (by decide) (by decide)) (by decide) (by decide)) (fu_up (r_w (l' := 0) (h' := 6) (r_n (x := (0 : Int32)) (l := 0) (h := 0) (by decide) (by decide)) (by decide) (by decide)) (by decide))
  · skip
    exact tp_s trivial
theorem t_f_X12_whole_J34 {k4_ : Int32 → Int64 → Option Int64} {v4_l1 : Int64} {v4_l3 : Int32} {v34_t1 : Int64} {N4 : Nat} (hk4 : ∀ (v4_l3 : Int32) (v4_l1 : Int64), R32 (0) (6) v4_l3 → (6 : Int) - v4_l3.toInt < (N4 : Nat) → TotP (k4_ v4_l3 v4_l1) (fun (r : Int64) => True)) (hm4 : (6 : Int) - v4_l3.toInt < ((N4 + 1 : Nat) : Int)) (h_v4_l3 : R32 (0) (5) v4_l3) : TotP (f_X12_whole_J34 k4_ v4_l1 v4_l3 v34_t1) (fun (r : Int64) => True) := by
  unfold f_X12_whole_J34
  exact hk4 _ _ (r_w (l' := 0) (h' := 6) (r_add (l := 1) (h := 6) h_v4_l3 (r_n (x := (1 : Int32)) (l := 1) (h := 1) (by decide) (by decide)) (by decide) (by decide) (by decide) (by decide)) (by decide) (by decide)) (ms_up (y := (1 : Int32)) h_v4_l3 (by decide) (by decide) (by decide) hm4)
theorem t_f_X12_whole_L4 {m_v : TX12_v} {q_q : TX11_q} (h_q_q_1 : R32 (2) (8) q_q.1) (h_q_q_2_1 : R32 (1) (9) q_q.2.1) (h_q_q_2_2_2_2_1 : R32 (1) (4) q_q.2.2.2.2.1) (h_q_q_2_2_2_2_2_1 : R32 (0) (5) q_q.2.2.2.2.2.1) (h_q_q_2_2_2_2_2_2_1 : R32 (0) (6) q_q.2.2.2.2.2.2.1) (h_q_q_2_2_2_2_2_2_2_1 : R32 (0) (6) q_q.2.2.2.2.2.2.2.1) : ∀ (n : Nat) (v4_l3 : Int32) (v4_l1 : Int64), R32 (0) (6) v4_l3 → (6 : Int) - v4_l3.toInt < (n : Int) → TotP (f_X12_whole_L4 m_v q_q n v4_l3 v4_l1) (fun (r : Int64) => True) := by
  intro n
  induction n with
  | zero =>
    intro v4_l3 v4_l1 h_v4_l3 hm
    exact (ms_0u h_v4_l3 hm).elim
  | succ n ih =>
    intro v4_l3 v4_l1 h_v4_l3 hm
    rw [f_X12_whole_L4]
    refine tp_if (fun c1 => ?_) (fun c1 => ?_)
    · skip
      exact tp_s trivial
    · skip
      have r2 : R32 (1) (6) q_q.2.2.2.2.2.2.1 := r_nle1 (by decide) h_q_q_2_2_2_2_2_2_1 h_v4_l3 c1
      have r3 : R32 (0) (5) v4_l3 := r_nle2 (by decide) h_q_q_2_2_2_2_2_2_1 h_v4_l3 c1
      refine tp_g (r_add (l := 0) (h := 5) (r_n (x := (0 : Int32)) (l := 0) (h := 0) (by decide) (by decide)) r3 (by decide) (by decide) (by decide) (by decide)) (by decide) (by decide) ?_
      refine tp_if (fun c4 => ?_) (fun c4 => ?_)
      · skip
        have r5 : R32 (0) (0) (m_v (((0 : Int32) + v4_l3)).toNatClampNeg) := r_eq1 (l := 0) (h := 0) (by decide) (by decide) (r_top _) (r_n (x := (0 : Int32)) (l := 0) (h := 0) (by decide) (by decide)) c4
        exact t_f_X12_whole_J34 ih hm r3
      · skip
        exact t_f_X12_whole_J34 ih hm r3
theorem t_f_X12_whole {m_v : TX12_v} {q_q : TX11_q} (h_q_q_1 : R32 (2) (8) q_q.1) (h_q_q_2_1 : R32 (1) (9) q_q.2.1) (h_q_q_2_2_2_2_1 : R32 (1) (4) q_q.2.2.2.2.1) (h_q_q_2_2_2_2_2_1 : R32 (0) (5) q_q.2.2.2.2.2.1) (h_q_q_2_2_2_2_2_2_1 : R32 (0) (6) q_q.2.2.2.2.2.2.1) (h_q_q_2_2_2_2_2_2_2_1 : R32 (0) (6) q_q.2.2.2.2.2.2.2.1) : TotP (f_X12_whole m_v q_q) (fun (r : Int64) => True) := by
  unfold f_X12_whole
  exact t_f_X12_whole_L4 h_q_q_1 h_q_q_2_1 h_q_q_2_2_2_2_1 h_q_q_2_2_2_2_2_1 h_q_q_2_2_2_2_2_2_1 h_q_q_2_2_2_2_2_2_2_1 FU _ _ (r_w (l' := 0) (h' := 6) (r_n (x := (0 : Int32)) (l := 0) (h := 0) (by decide) (by decide)) (by decide) (by decide)) (fu_up (r_w (l' := 0) (h' := 6) (r_n (x := (0 : Int32)) (l := 0) (h := 0) (by decide) (by decide)) (by decide) (by decide)) (by decide))
theorem t_f_X12_fraction_J16 {k1 : Int64} {k2 : Int64} {o2 : (Int32 × TX12_t)} {v16_t0 : Int64} (hx0 : ¬ k2 = 0) (h_o2_1 : R32 (0) (0) o2.1) (h_o2_2_1 : R32 (0) (0) o2.2.1) (h_o2_2_2_1 : R32 (0) (0) o2.2.2.1) (h_o2_2_2_2 : R32 (-1) (-1) o2.2.2.2) : TotP (f_X12_fraction_J16 k1 k2 o2 v16_t0) (fun (r : Int64 × TX12_t) => R32 (0) (0) r.2.1 ∧ R32 (0) (0) r.2.2.1 ∧ R32 (-1) (-1) r.2.2.2) := by
  unfold f_X12_fraction_J16
  refine tp_be (t_f_X12_common ) (fun o18 e2 h1 => ?_)
  refine tp_zl (common_ne0 hx0 e2) ?_
  exact tp_s ⟨h_o2_2_1, h_o2_2_2_1, h_o2_2_2_2⟩
theorem t_f_X12_fraction {k1 : Int64} {k2 : Int64} {k3 : Int32} {m_t : TX12_t} (hx0 : ¬ k2 = 0) (h_m_t_1 : R32 (0) (0) m_t.1) : TotP (f_X12_fraction k1 k2 k3 m_t) (fun (r : Int64 × TX12_t) => R32 (0) (0) r.2.1 ∧ R32 (0) (0) r.2.2.1 ∧ R32 (-1) (-1) r.2.2.2) := by
  unfold f_X12_fraction
  refine tp_e (f_X12_good.eq_1 _ _) ?_
  refine tp_nl ?_
  refine tp_if (fun c1 => ?_) (fun c1 => ?_)
  · skip
    have r2 : R32 (0) (0) k3 := r_eq1 (l := 0) (h := 0) (by decide) (by decide) (r_top _) (r_n (x := (0 : Int32)) (l := 0) (h := 0) (by decide) (by decide)) c1
    exact t_f_X12_fraction_J16 hx0 (r_n (x := (0 : Int32)) (l := 0) (h := 0) (by decide) (by decide)) h_m_t_1 (r_n (x := (0 : Int32)) (l := 0) (h := 0) (by decide) (by decide)) (r_n (x := (-1 : Int32)) (l := -1) (h := -1) (by decide) (by decide))
  · skip
    exact t_f_X12_fraction_J16 hx0 (r_n (x := (0 : Int32)) (l := 0) (h := 0) (by decide) (by decide)) h_m_t_1 (r_n (x := (0 : Int32)) (l := 0) (h := 0) (by decide) (by decide)) (r_n (x := (-1 : Int32)) (l := -1) (h := -1) (by decide) (by decide))
theorem t_f_X12_takes {k1 : Int32} {k2 : Int32} {k3 : Int32} {k4 : Int32} {k5 : Int32} {m_t : TX12_t} {m_v : TX12_v} {q_q : TX11_q} (h_q_q_1 : R32 (2) (8) q_q.1) (h_q_q_2_1 : R32 (1) (9) q_q.2.1) (h_q_q_2_2_2_2_1 : R32 (1) (4) q_q.2.2.2.2.1) (h_q_q_2_2_2_2_2_1 : R32 (0) (5) q_q.2.2.2.2.2.1) (h_q_q_2_2_2_2_2_2_1 : R32 (0) (6) q_q.2.2.2.2.2.2.1) (h_q_q_2_2_2_2_2_2_2_1 : R32 (0) (6) q_q.2.2.2.2.2.2.2.1) : TotP (f_X12_takes k1 k2 k3 k4 k5 m_t m_v q_q) (fun (r : Int64 × TX12_t) => R32 (0) (0) r.2.1 ∧ R32 (0) (2) r.2.2.1 ∧ R32 (-1) (-1) r.2.2.2) := by
  unfold f_X12_takes
  refine tp_e (f_X12_isAnswer.eq_1 _ _) ?_
  refine tp_nif (fun c1 => ?_) (fun c1 => ?_)
  · skip
    have r2 : R32 (-2147483648) (-1) k1 := r_lt1 (by decide) (r_top _) (r_n (x := (0 : Int32)) (l := 0) (h := 0) (by decide) (by decide)) c1
    refine tp_nl ?_
    refine tp_e (f_X12_refusesQuestion.eq_1 _ _ _ _ _) ?_
    refine tp_nift (d_eq (r_n (x := (0 : Int32)) (l := 0) (h := 0) (by decide) (by decide)) (r_n (x := (0 : Int32)) (l := 0) (h := 0) (by decide) (by decide))) ?_
    refine tp_nl ?_
    refine tp_iff (d_nle (r_n (x := (1 : Int32)) (l := 1) (h := 1) (by decide) (by decide)) (r_n (x := (0 : Int32)) (l := 0) (h := 0) (by decide) (by decide)) (by decide)) ?_
    refine tp_e (f_X12_refused.eq_1 _ _) ?_
    refine tp_nl ?_
    exact tp_s ⟨(r_n (x := (0 : Int32)) (l := 0) (h := 0) (by decide) (by decide)), (r_w (l' := 0) (h' := 2) (r_n (x := (1 : Int32)) (l := 1) (h := 1) (by decide) (by decide)) (by decide) (by decide)), (r_n (x := (-1 : Int32)) (l := -1) (h := -1) (by decide) (by decide))⟩
  · skip
    have r3 : R32 (0) (2147483647) k1 := r_nlt1 (r_top _) (r_n (x := (0 : Int32)) (l := 0) (h := 0) (by decide) (by decide)) c1
    refine tp_nif (fun c4 => ?_) (fun c4 => ?_)
    · skip
      refine tp_nl ?_
      refine tp_e (f_X12_refusesQuestion.eq_1 _ _ _ _ _) ?_
      refine tp_nift (d_eq (r_n (x := (0 : Int32)) (l := 0) (h := 0) (by decide) (by decide)) (r_n (x := (0 : Int32)) (l := 0) (h := 0) (by decide) (by decide))) ?_
      refine tp_nl ?_
      refine tp_iff (d_nle (r_n (x := (1 : Int32)) (l := 1) (h := 1) (by decide) (by decide)) (r_n (x := (0 : Int32)) (l := 0) (h := 0) (by decide) (by decide)) (by decide)) ?_
      refine tp_e (f_X12_refused.eq_1 _ _) ?_
      refine tp_nl ?_
      exact tp_s ⟨(r_n (x := (0 : Int32)) (l := 0) (h := 0) (by decide) (by decide)), (r_w (l' := 0) (h' := 2) (r_n (x := (1 : Int32)) (l := 1) (h := 1) (by decide) (by decide)) (by decide) (by decide)), (r_n (x := (-1 : Int32)) (l := -1) (h := -1) (by decide) (by decide))⟩
    · skip
      have r5 : R32 (1) (6) q_q.2.2.2.2.2.2.1 := r_nle1 (by decide) h_q_q_2_2_2_2_2_2_1 r3 c4
      have r6 : R32 (0) (5) k1 := r_nle2 (by decide) h_q_q_2_2_2_2_2_2_1 r3 c4
      refine tp_nl ?_
      refine tp_e (f_X12_refusesQuestion.eq_1 _ _ _ _ _) ?_
      refine tp_niff (d_ne2 (r_n (x := (1 : Int32)) (l := 1) (h := 1) (by decide) (by decide)) (r_n (x := (0 : Int32)) (l := 0) (h := 0) (by decide) (by decide)) (by decide)) ?_
      refine tp_nn ?_
      refine tp_e (f_X12_in.eq_1 _ _ _) ?_
      refine tp_nif (fun c7 => ?_) (fun c7 => ?_)
      · skip
        have r8 : R32 (-2147483648) (-1) k2 := r_lt1 (by decide) (r_top _) (r_n (x := (0 : Int32)) (l := 0) (h := 0) (by decide) (by decide)) c7
        refine tp_nl ?_
        refine tp_nift (d_eq (r_n (x := (0 : Int32)) (l := 0) (h := 0) (by decide) (by decide)) (r_n (x := (0 : Int32)) (l := 0) (h := 0) (by decide) (by decide))) ?_
        refine tp_nl ?_
        refine tp_iff (d_nle (r_n (x := (1 : Int32)) (l := 1) (h := 1) (by decide) (by decide)) (r_n (x := (0 : Int32)) (l := 0) (h := 0) (by decide) (by decide)) (by decide)) ?_
        refine tp_e (f_X12_refused.eq_1 _ _) ?_
        refine tp_nl ?_
        exact tp_s ⟨(r_n (x := (0 : Int32)) (l := 0) (h := 0) (by decide) (by decide)), (r_w (l' := 0) (h' := 2) (r_n (x := (1 : Int32)) (l := 1) (h := 1) (by decide) (by decide)) (by decide) (by decide)), (r_n (x := (-1 : Int32)) (l := -1) (h := -1) (by decide) (by decide))⟩
      · skip
        have r9 : R32 (0) (2147483647) k2 := r_nlt1 (r_top _) (r_n (x := (0 : Int32)) (l := 0) (h := 0) (by decide) (by decide)) c7
        refine tp_nif (fun c10 => ?_) (fun c10 => ?_)
        · skip
          have r11 : R32 (2) (2147483647) k2 := r_lt2 (by decide) (r_sub (l := 1) (h := 7) h_q_q_1 (r_n (x := (1 : Int32)) (l := 1) (h := 1) (by decide) (by decide)) (by decide) (by decide) (by decide) (by decide)) r9 c10
          refine tp_nl ?_
          refine tp_nift (d_eq (r_n (x := (0 : Int32)) (l := 0) (h := 0) (by decide) (by decide)) (r_n (x := (0 : Int32)) (l := 0) (h := 0) (by decide) (by decide))) ?_
          refine tp_nl ?_
          refine tp_iff (d_nle (r_n (x := (1 : Int32)) (l := 1) (h := 1) (by decide) (by decide)) (r_n (x := (0 : Int32)) (l := 0) (h := 0) (by decide) (by decide)) (by decide)) ?_
          refine tp_e (f_X12_refused.eq_1 _ _) ?_
          refine tp_nl ?_
          exact tp_s ⟨(r_n (x := (0 : Int32)) (l := 0) (h := 0) (by decide) (by decide)), (r_w (l' := 0) (h' := 2) (r_n (x := (1 : Int32)) (l := 1) (h := 1) (by decide) (by decide)) (by decide) (by decide)), (r_n (x := (-1 : Int32)) (l := -1) (h := -1) (by decide) (by decide))⟩
        · skip
          have r12 : R32 (0) (7) k2 := r_nlt2 (r_sub (l := 1) (h := 7) h_q_q_1 (r_n (x := (1 : Int32)) (l := 1) (h := 1) (by decide) (by decide)) (by decide) (by decide) (by decide) (by decide)) r9 c10
          refine tp_nl ?_
          refine tp_niff (d_ne2 (r_n (x := (1 : Int32)) (l := 1) (h := 1) (by decide) (by decide)) (r_n (x := (0 : Int32)) (l := 0) (h := 0) (by decide) (by decide)) (by decide)) ?_
          refine tp_nn ?_
          refine tp_e (f_X12_in.eq_1 _ _ _) ?_
          refine tp_nif (fun c13 => ?_) (fun c13 => ?_)
          · skip
            have r14 : R32 (-2147483648) (-1) k4 := r_lt1 (by decide) (r_top _) (r_n (x := (0 : Int32)) (l := 0) (h := 0) (by decide) (by decide)) c13
            refine tp_nl ?_
            refine tp_nift (d_eq (r_n (x := (0 : Int32)) (l := 0) (h := 0) (by decide) (by decide)) (r_n (x := (0 : Int32)) (l := 0) (h := 0) (by decide) (by decide))) ?_
            refine tp_nl ?_
            refine tp_iff (d_nle (r_n (x := (1 : Int32)) (l := 1) (h := 1) (by decide) (by decide)) (r_n (x := (0 : Int32)) (l := 0) (h := 0) (by decide) (by decide)) (by decide)) ?_
            refine tp_e (f_X12_refused.eq_1 _ _) ?_
            refine tp_nl ?_
            exact tp_s ⟨(r_n (x := (0 : Int32)) (l := 0) (h := 0) (by decide) (by decide)), (r_w (l' := 0) (h' := 2) (r_n (x := (1 : Int32)) (l := 1) (h := 1) (by decide) (by decide)) (by decide) (by decide)), (r_n (x := (-1 : Int32)) (l := -1) (h := -1) (by decide) (by decide))⟩
          · skip
            have r15 : R32 (0) (2147483647) k4 := r_nlt1 (r_top _) (r_n (x := (0 : Int32)) (l := 0) (h := 0) (by decide) (by decide)) c13
            refine tp_nif (fun c16 => ?_) (fun c16 => ?_)
            · skip
              have r17 : R32 (1) (2147483647) k4 := r_lt2 (by decide) (r_sub (l := 0) (h := 3) h_q_q_2_2_2_2_1 (r_n (x := (1 : Int32)) (l := 1) (h := 1) (by decide) (by decide)) (by decide) (by decide) (by decide) (by decide)) r15 c16
              refine tp_nl ?_
              refine tp_nift (d_eq (r_n (x := (0 : Int32)) (l := 0) (h := 0) (by decide) (by decide)) (r_n (x := (0 : Int32)) (l := 0) (h := 0) (by decide) (by decide))) ?_
              refine tp_nl ?_
              refine tp_iff (d_nle (r_n (x := (1 : Int32)) (l := 1) (h := 1) (by decide) (by decide)) (r_n (x := (0 : Int32)) (l := 0) (h := 0) (by decide) (by decide)) (by decide)) ?_
              refine tp_e (f_X12_refused.eq_1 _ _) ?_
              refine tp_nl ?_
              exact tp_s ⟨(r_n (x := (0 : Int32)) (l := 0) (h := 0) (by decide) (by decide)), (r_w (l' := 0) (h' := 2) (r_n (x := (1 : Int32)) (l := 1) (h := 1) (by decide) (by decide)) (by decide) (by decide)), (r_n (x := (-1 : Int32)) (l := -1) (h := -1) (by decide) (by decide))⟩
            · skip
              have r18 : R32 (0) (3) k4 := r_nlt2 (r_sub (l := 0) (h := 3) h_q_q_2_2_2_2_1 (r_n (x := (1 : Int32)) (l := 1) (h := 1) (by decide) (by decide)) (by decide) (by decide) (by decide) (by decide)) r15 c16
              refine tp_nl ?_
              refine tp_niff (d_ne2 (r_n (x := (1 : Int32)) (l := 1) (h := 1) (by decide) (by decide)) (r_n (x := (0 : Int32)) (l := 0) (h := 0) (by decide) (by decide)) (by decide)) ?_
              refine tp_nn ?_
              refine tp_e (f_X12_in.eq_1 _ _ _) ?_
              refine tp_nif (fun c19 => ?_) (fun c19 => ?_)
              · skip
                have r20 : R32 (-2147483648) (0) k3 := r_lt1 (by decide) (r_top _) (r_n (x := (1 : Int32)) (l := 1) (h := 1) (by decide) (by decide)) c19
                refine tp_nl ?_
                refine tp_nift (d_eq (r_n (x := (0 : Int32)) (l := 0) (h := 0) (by decide) (by decide)) (r_n (x := (0 : Int32)) (l := 0) (h := 0) (by decide) (by decide))) ?_
                refine tp_nl ?_
                refine tp_iff (d_nle (r_n (x := (2 : Int32)) (l := 2) (h := 2) (by decide) (by decide)) (r_n (x := (0 : Int32)) (l := 0) (h := 0) (by decide) (by decide)) (by decide)) ?_
                refine tp_e (f_X12_refused.eq_1 _ _) ?_
                refine tp_nl ?_
                exact tp_s ⟨(r_n (x := (0 : Int32)) (l := 0) (h := 0) (by decide) (by decide)), (r_w (l' := 0) (h' := 2) (r_n (x := (2 : Int32)) (l := 2) (h := 2) (by decide) (by decide)) (by decide) (by decide)), (r_n (x := (-1 : Int32)) (l := -1) (h := -1) (by decide) (by decide))⟩
              · skip
                have r21 : R32 (1) (2147483647) k3 := r_nlt1 (r_top _) (r_n (x := (1 : Int32)) (l := 1) (h := 1) (by decide) (by decide)) c19
                refine tp_nif (fun c22 => ?_) (fun c22 => ?_)
                · skip
                  have r23 : R32 (2) (2147483647) k3 := r_lt2 (by decide) h_q_q_2_1 r21 c22
                  refine tp_nl ?_
                  refine tp_nift (d_eq (r_n (x := (0 : Int32)) (l := 0) (h := 0) (by decide) (by decide)) (r_n (x := (0 : Int32)) (l := 0) (h := 0) (by decide) (by decide))) ?_
                  refine tp_nl ?_
                  refine tp_iff (d_nle (r_n (x := (2 : Int32)) (l := 2) (h := 2) (by decide) (by decide)) (r_n (x := (0 : Int32)) (l := 0) (h := 0) (by decide) (by decide)) (by decide)) ?_
                  refine tp_e (f_X12_refused.eq_1 _ _) ?_
                  refine tp_nl ?_
                  exact tp_s ⟨(r_n (x := (0 : Int32)) (l := 0) (h := 0) (by decide) (by decide)), (r_w (l' := 0) (h' := 2) (r_n (x := (2 : Int32)) (l := 2) (h := 2) (by decide) (by decide)) (by decide) (by decide)), (r_n (x := (-1 : Int32)) (l := -1) (h := -1) (by decide) (by decide))⟩
                · skip
                  have r24 : R32 (1) (9) k3 := r_nlt2 h_q_q_2_1 r21 c22
                  refine tp_nl ?_
                  refine tp_niff (d_ne2 (r_n (x := (1 : Int32)) (l := 1) (h := 1) (by decide) (by decide)) (r_n (x := (0 : Int32)) (l := 0) (h := 0) (by decide) (by decide)) (by decide)) ?_
                  refine tp_nl ?_
                  refine tp_ift (d_le (r_n (x := (0 : Int32)) (l := 0) (h := 0) (by decide) (by decide)) (r_n (x := (0 : Int32)) (l := 0) (h := 0) (by decide) (by decide)) (by decide)) ?_
                  refine tp_e (f_X12_question.eq_1 _ _ _ _) ?_
                  refine tp_nn ?_
                  refine tp_n (P := fun z => R32 (0) (287) z) (r_add (l := 0) (h := 287) (r_mul (l := 0) (h := 284) (r_sub (l := 0) (h := 71) (r_add (l := 1) (h := 72) (r_mul (l := 0) (h := 63) r12 h_q_q_2_1 (by decide) (by decide) (by decide) (by decide) (by decide)) r24 (by decide) (by decide) (by decide) (by decide)) (r_n (x := (1 : Int32)) (l := 1) (h := 1) (by decide) (by decide)) (by decide) (by decide) (by decide) (by decide)) h_q_q_2_2_2_2_1 (by decide) (by decide) (by decide) (by decide) (by decide)) r18 (by decide) (by decide) (by decide) (by decide)) (fun z22 h25 => ?_)
                  refine tp_nl ?_
                  refine tp_b (t_f_X12_oddsOf r6 (r_w (l' := -1) (h' := 287) h25 (by decide) (by decide)) h_q_q_1 h_q_q_2_1 h_q_q_2_2_2_2_1 h_q_q_2_2_2_2_2_1 r5 h_q_q_2_2_2_2_2_2_2_1) (fun o46 h26 => ?_)
                  refine tp_be (t_f_X12_whole h_q_q_1 h_q_q_2_1 h_q_q_2_2_2_2_1 h_q_q_2_2_2_2_2_1 (r_w (l' := 0) (h' := 6) r5 (by decide) (by decide)) h_q_q_2_2_2_2_2_2_2_1) (fun o50 e28 h27 => ?_)
                  refine tp_b (t_f_X12_fraction (whole_ne0 (r_w (l' := 0) (h' := 6) r5 (by decide) (by decide)) e28) (r_n (x := (0 : Int32)) (l := 0) (h := 0) (by decide) (by decide))) (fun o55 h29 => ?_)
                  obtain ⟨r30, r31, r32⟩ := h29
                  exact tp_s ⟨r30, (r_w (l' := 0) (h' := 2) r31 (by decide) (by decide)), r32⟩
theorem t_f_X12_noOdds_J44 {k5_ : Int32 → Int64 → Option Int64} {v5_l4 : Int32} {v44_l2 : Int64} {N5 : Nat} (hk5 : ∀ (v5_l4 : Int32) (v5_l2 : Int64), R32 (0) (6) v5_l4 → (6 : Int) - v5_l4.toInt < (N5 : Nat) → TotP (k5_ v5_l4 v5_l2) (fun (r : Int64) => True)) (hm5 : (6 : Int) - v5_l4.toInt < ((N5 + 1 : Nat) : Int)) (h_v5_l4 : R32 (0) (5) v5_l4) : TotP (f_X12_noOdds_J44 k5_ v5_l4 v44_l2) (fun (r : Int64) => True) := by
  unfold f_X12_noOdds_J44
  exact hk5 _ _ (r_w (l' := 0) (h' := 6) (r_add (l := 1) (h := 6) h_v5_l4 (r_n (x := (1 : Int32)) (l := 1) (h := 1) (by decide) (by decide)) (by decide) (by decide) (by decide) (by decide)) (by decide) (by decide)) (ms_up (y := (1 : Int32)) h_v5_l4 (by decide) (by decide) (by decide) hm5)
theorem t_f_X12_noOdds_L5 {k1 : Int32} {m_v : TX12_v} {q_q : TX11_q} (h_k1 : R32 (0) (287) k1) (h_q_q_1 : R32 (2) (8) q_q.1) (h_q_q_2_1 : R32 (1) (9) q_q.2.1) (h_q_q_2_2_2_2_1 : R32 (1) (4) q_q.2.2.2.2.1) (h_q_q_2_2_2_2_2_1 : R32 (0) (5) q_q.2.2.2.2.2.1) (h_q_q_2_2_2_2_2_2_1 : R32 (0) (6) q_q.2.2.2.2.2.2.1) (h_q_q_2_2_2_2_2_2_2_1 : R32 (0) (6) q_q.2.2.2.2.2.2.2.1) : ∀ (n : Nat) (v5_l4 : Int32) (v5_l2 : Int64), R32 (0) (6) v5_l4 → (6 : Int) - v5_l4.toInt < (n : Int) → TotP (f_X12_noOdds_L5 k1 m_v q_q n v5_l4 v5_l2) (fun (r : Int64) => True) := by
  intro n
  induction n with
  | zero =>
    intro v5_l4 v5_l2 h_v5_l4 hm
    exact (ms_0u h_v5_l4 hm).elim
  | succ n ih =>
    intro v5_l4 v5_l2 h_v5_l4 hm
    rw [f_X12_noOdds_L5]
    refine tp_if (fun c1 => ?_) (fun c1 => ?_)
    · skip
      exact tp_s trivial
    · skip
      have r2 : R32 (1) (6) q_q.2.2.2.2.2.2.1 := r_nle1 (by decide) h_q_q_2_2_2_2_2_2_1 h_v5_l4 c1
      have r3 : R32 (0) (5) v5_l4 := r_nle2 (by decide) h_q_q_2_2_2_2_2_2_1 h_v5_l4 c1
      refine tp_g (r_add (l := 0) (h := 5) (r_n (x := (0 : Int32)) (l := 0) (h := 0) (by decide) (by decide)) r3 (by decide) (by decide) (by decide) (by decide)) (by decide) (by decide) ?_
      refine tp_if (fun c4 => ?_) (fun c4 => ?_)
      · skip
        have r5 : R32 (0) (0) (m_v (((0 : Int32) + v5_l4)).toNatClampNeg) := r_eq1 (l := 0) (h := 0) (by decide) (by decide) (r_top _) (r_n (x := (0 : Int32)) (l := 0) (h := 0) (by decide) (by decide)) c4
        refine tp_b (t_f_X12_wishOf r3 h_q_q_1 h_q_q_2_1 h_q_q_2_2_2_2_1 h_q_q_2_2_2_2_2_1 r2 h_q_q_2_2_2_2_2_2_2_1) (fun o37 h6 => ?_)
        exact t_f_X12_noOdds_J44 ih hm r3
      · skip
        exact t_f_X12_noOdds_J44 ih hm r3
theorem t_f_X12_noOdds {k1 : Int32} {m_v : TX12_v} {q_q : TX11_q} (h_k1 : R32 (0) (287) k1) (h_q_q_1 : R32 (2) (8) q_q.1) (h_q_q_2_1 : R32 (1) (9) q_q.2.1) (h_q_q_2_2_2_2_1 : R32 (1) (4) q_q.2.2.2.2.1) (h_q_q_2_2_2_2_2_1 : R32 (0) (5) q_q.2.2.2.2.2.1) (h_q_q_2_2_2_2_2_2_1 : R32 (0) (6) q_q.2.2.2.2.2.2.1) (h_q_q_2_2_2_2_2_2_2_1 : R32 (0) (6) q_q.2.2.2.2.2.2.2.1) : TotP (f_X12_noOdds k1 m_v q_q) (fun (r : Int64) => True) := by
  unfold f_X12_noOdds
  exact t_f_X12_noOdds_L5 h_k1 h_q_q_1 h_q_q_2_1 h_q_q_2_2_2_2_1 h_q_q_2_2_2_2_2_1 h_q_q_2_2_2_2_2_2_1 h_q_q_2_2_2_2_2_2_2_1 FU _ _ (r_w (l' := 0) (h' := 6) (r_n (x := (0 : Int32)) (l := 0) (h := 0) (by decide) (by decide)) (by decide) (by decide)) (fu_up (r_w (l' := 0) (h' := 6) (r_n (x := (0 : Int32)) (l := 0) (h := 0) (by decide) (by decide)) (by decide) (by decide)) (by decide))
theorem t_f_X12_nothing {k1 : Int32} {k2 : Int32} {k3 : Int32} {k4 : Int32} {m_t : TX12_t} {m_v : TX12_v} {q_q : TX11_q} (h_q_q_1 : R32 (2) (8) q_q.1) (h_q_q_2_1 : R32 (1) (9) q_q.2.1) (h_q_q_2_2_2_2_1 : R32 (1) (4) q_q.2.2.2.2.1) (h_q_q_2_2_2_2_2_1 : R32 (0) (5) q_q.2.2.2.2.2.1) (h_q_q_2_2_2_2_2_2_1 : R32 (0) (6) q_q.2.2.2.2.2.2.1) (h_q_q_2_2_2_2_2_2_2_1 : R32 (0) (6) q_q.2.2.2.2.2.2.2.1) : TotP (f_X12_nothing k1 k2 k3 k4 m_t m_v q_q) (fun (r : Int64 × TX12_t) => R32 (0) (0) r.2.1 ∧ R32 (0) (2) r.2.2.1 ∧ R32 (-1) (-1) r.2.2.2) := by
  unfold f_X12_nothing
  refine tp_e (f_X12_refusesQuestion.eq_1 _ _ _ _ _) ?_
  refine tp_niff (d_ne2 (r_n (x := (1 : Int32)) (l := 1) (h := 1) (by decide) (by decide)) (r_n (x := (0 : Int32)) (l := 0) (h := 0) (by decide) (by decide)) (by decide)) ?_
  refine tp_nn ?_
  refine tp_e (f_X12_in.eq_1 _ _ _) ?_
  refine tp_nif (fun c1 => ?_) (fun c1 => ?_)
  · skip
    have r2 : R32 (-2147483648) (-1) k1 := r_lt1 (by decide) (r_top _) (r_n (x := (0 : Int32)) (l := 0) (h := 0) (by decide) (by decide)) c1
    refine tp_nl ?_
    refine tp_nift (d_eq (r_n (x := (0 : Int32)) (l := 0) (h := 0) (by decide) (by decide)) (r_n (x := (0 : Int32)) (l := 0) (h := 0) (by decide) (by decide))) ?_
    refine tp_nl ?_
    refine tp_iff (d_nle (r_n (x := (1 : Int32)) (l := 1) (h := 1) (by decide) (by decide)) (r_n (x := (0 : Int32)) (l := 0) (h := 0) (by decide) (by decide)) (by decide)) ?_
    refine tp_e (f_X12_refused.eq_1 _ _) ?_
    refine tp_nl ?_
    exact tp_s ⟨(r_n (x := (0 : Int32)) (l := 0) (h := 0) (by decide) (by decide)), (r_w (l' := 0) (h' := 2) (r_n (x := (1 : Int32)) (l := 1) (h := 1) (by decide) (by decide)) (by decide) (by decide)), (r_n (x := (-1 : Int32)) (l := -1) (h := -1) (by decide) (by decide))⟩
  · skip
    have r3 : R32 (0) (2147483647) k1 := r_nlt1 (r_top _) (r_n (x := (0 : Int32)) (l := 0) (h := 0) (by decide) (by decide)) c1
    refine tp_nif (fun c4 => ?_) (fun c4 => ?_)
    · skip
      have r5 : R32 (2) (2147483647) k1 := r_lt2 (by decide) (r_sub (l := 1) (h := 7) h_q_q_1 (r_n (x := (1 : Int32)) (l := 1) (h := 1) (by decide) (by decide)) (by decide) (by decide) (by decide) (by decide)) r3 c4
      refine tp_nl ?_
      refine tp_nift (d_eq (r_n (x := (0 : Int32)) (l := 0) (h := 0) (by decide) (by decide)) (r_n (x := (0 : Int32)) (l := 0) (h := 0) (by decide) (by decide))) ?_
      refine tp_nl ?_
      refine tp_iff (d_nle (r_n (x := (1 : Int32)) (l := 1) (h := 1) (by decide) (by decide)) (r_n (x := (0 : Int32)) (l := 0) (h := 0) (by decide) (by decide)) (by decide)) ?_
      refine tp_e (f_X12_refused.eq_1 _ _) ?_
      refine tp_nl ?_
      exact tp_s ⟨(r_n (x := (0 : Int32)) (l := 0) (h := 0) (by decide) (by decide)), (r_w (l' := 0) (h' := 2) (r_n (x := (1 : Int32)) (l := 1) (h := 1) (by decide) (by decide)) (by decide) (by decide)), (r_n (x := (-1 : Int32)) (l := -1) (h := -1) (by decide) (by decide))⟩
    · skip
      have r6 : R32 (0) (7) k1 := r_nlt2 (r_sub (l := 1) (h := 7) h_q_q_1 (r_n (x := (1 : Int32)) (l := 1) (h := 1) (by decide) (by decide)) (by decide) (by decide) (by decide) (by decide)) r3 c4
      refine tp_nl ?_
      refine tp_niff (d_ne2 (r_n (x := (1 : Int32)) (l := 1) (h := 1) (by decide) (by decide)) (r_n (x := (0 : Int32)) (l := 0) (h := 0) (by decide) (by decide)) (by decide)) ?_
      refine tp_nn ?_
      refine tp_e (f_X12_in.eq_1 _ _ _) ?_
      refine tp_nif (fun c7 => ?_) (fun c7 => ?_)
      · skip
        have r8 : R32 (-2147483648) (-1) k3 := r_lt1 (by decide) (r_top _) (r_n (x := (0 : Int32)) (l := 0) (h := 0) (by decide) (by decide)) c7
        refine tp_nl ?_
        refine tp_nift (d_eq (r_n (x := (0 : Int32)) (l := 0) (h := 0) (by decide) (by decide)) (r_n (x := (0 : Int32)) (l := 0) (h := 0) (by decide) (by decide))) ?_
        refine tp_nl ?_
        refine tp_iff (d_nle (r_n (x := (1 : Int32)) (l := 1) (h := 1) (by decide) (by decide)) (r_n (x := (0 : Int32)) (l := 0) (h := 0) (by decide) (by decide)) (by decide)) ?_
        refine tp_e (f_X12_refused.eq_1 _ _) ?_
        refine tp_nl ?_
        exact tp_s ⟨(r_n (x := (0 : Int32)) (l := 0) (h := 0) (by decide) (by decide)), (r_w (l' := 0) (h' := 2) (r_n (x := (1 : Int32)) (l := 1) (h := 1) (by decide) (by decide)) (by decide) (by decide)), (r_n (x := (-1 : Int32)) (l := -1) (h := -1) (by decide) (by decide))⟩
      · skip
        have r9 : R32 (0) (2147483647) k3 := r_nlt1 (r_top _) (r_n (x := (0 : Int32)) (l := 0) (h := 0) (by decide) (by decide)) c7
        refine tp_nif (fun c10 => ?_) (fun c10 => ?_)
        · skip
          have r11 : R32 (1) (2147483647) k3 := r_lt2 (by decide) (r_sub (l := 0) (h := 3) h_q_q_2_2_2_2_1 (r_n (x := (1 : Int32)) (l := 1) (h := 1) (by decide) (by decide)) (by decide) (by decide) (by decide) (by decide)) r9 c10
          refine tp_nl ?_
          refine tp_nift (d_eq (r_n (x := (0 : Int32)) (l := 0) (h := 0) (by decide) (by decide)) (r_n (x := (0 : Int32)) (l := 0) (h := 0) (by decide) (by decide))) ?_
          refine tp_nl ?_
          refine tp_iff (d_nle (r_n (x := (1 : Int32)) (l := 1) (h := 1) (by decide) (by decide)) (r_n (x := (0 : Int32)) (l := 0) (h := 0) (by decide) (by decide)) (by decide)) ?_
          refine tp_e (f_X12_refused.eq_1 _ _) ?_
          refine tp_nl ?_
          exact tp_s ⟨(r_n (x := (0 : Int32)) (l := 0) (h := 0) (by decide) (by decide)), (r_w (l' := 0) (h' := 2) (r_n (x := (1 : Int32)) (l := 1) (h := 1) (by decide) (by decide)) (by decide) (by decide)), (r_n (x := (-1 : Int32)) (l := -1) (h := -1) (by decide) (by decide))⟩
        · skip
          have r12 : R32 (0) (3) k3 := r_nlt2 (r_sub (l := 0) (h := 3) h_q_q_2_2_2_2_1 (r_n (x := (1 : Int32)) (l := 1) (h := 1) (by decide) (by decide)) (by decide) (by decide) (by decide) (by decide)) r9 c10
          refine tp_nl ?_
          refine tp_niff (d_ne2 (r_n (x := (1 : Int32)) (l := 1) (h := 1) (by decide) (by decide)) (r_n (x := (0 : Int32)) (l := 0) (h := 0) (by decide) (by decide)) (by decide)) ?_
          refine tp_nn ?_
          refine tp_e (f_X12_in.eq_1 _ _ _) ?_
          refine tp_nif (fun c13 => ?_) (fun c13 => ?_)
          · skip
            have r14 : R32 (-2147483648) (0) k2 := r_lt1 (by decide) (r_top _) (r_n (x := (1 : Int32)) (l := 1) (h := 1) (by decide) (by decide)) c13
            refine tp_nl ?_
            refine tp_nift (d_eq (r_n (x := (0 : Int32)) (l := 0) (h := 0) (by decide) (by decide)) (r_n (x := (0 : Int32)) (l := 0) (h := 0) (by decide) (by decide))) ?_
            refine tp_nl ?_
            refine tp_iff (d_nle (r_n (x := (2 : Int32)) (l := 2) (h := 2) (by decide) (by decide)) (r_n (x := (0 : Int32)) (l := 0) (h := 0) (by decide) (by decide)) (by decide)) ?_
            refine tp_e (f_X12_refused.eq_1 _ _) ?_
            refine tp_nl ?_
            exact tp_s ⟨(r_n (x := (0 : Int32)) (l := 0) (h := 0) (by decide) (by decide)), (r_w (l' := 0) (h' := 2) (r_n (x := (2 : Int32)) (l := 2) (h := 2) (by decide) (by decide)) (by decide) (by decide)), (r_n (x := (-1 : Int32)) (l := -1) (h := -1) (by decide) (by decide))⟩
          · skip
            have r15 : R32 (1) (2147483647) k2 := r_nlt1 (r_top _) (r_n (x := (1 : Int32)) (l := 1) (h := 1) (by decide) (by decide)) c13
            refine tp_nif (fun c16 => ?_) (fun c16 => ?_)
            · skip
              have r17 : R32 (2) (2147483647) k2 := r_lt2 (by decide) h_q_q_2_1 r15 c16
              refine tp_nl ?_
              refine tp_nift (d_eq (r_n (x := (0 : Int32)) (l := 0) (h := 0) (by decide) (by decide)) (r_n (x := (0 : Int32)) (l := 0) (h := 0) (by decide) (by decide))) ?_
              refine tp_nl ?_
              refine tp_iff (d_nle (r_n (x := (2 : Int32)) (l := 2) (h := 2) (by decide) (by decide)) (r_n (x := (0 : Int32)) (l := 0) (h := 0) (by decide) (by decide)) (by decide)) ?_
              refine tp_e (f_X12_refused.eq_1 _ _) ?_
              refine tp_nl ?_
              exact tp_s ⟨(r_n (x := (0 : Int32)) (l := 0) (h := 0) (by decide) (by decide)), (r_w (l' := 0) (h' := 2) (r_n (x := (2 : Int32)) (l := 2) (h := 2) (by decide) (by decide)) (by decide) (by decide)), (r_n (x := (-1 : Int32)) (l := -1) (h := -1) (by decide) (by decide))⟩
            · skip
              have r18 : R32 (1) (9) k2 := r_nlt2 h_q_q_2_1 r15 c16
              refine tp_nl ?_
              refine tp_niff (d_ne2 (r_n (x := (1 : Int32)) (l := 1) (h := 1) (by decide) (by decide)) (r_n (x := (0 : Int32)) (l := 0) (h := 0) (by decide) (by decide)) (by decide)) ?_
              refine tp_nl ?_
              refine tp_ift (d_le (r_n (x := (0 : Int32)) (l := 0) (h := 0) (by decide) (by decide)) (r_n (x := (0 : Int32)) (l := 0) (h := 0) (by decide) (by decide)) (by decide)) ?_
              refine tp_e (f_X12_question.eq_1 _ _ _ _) ?_
              refine tp_nn ?_
              refine tp_n (P := fun z => R32 (0) (287) z) (r_add (l := 0) (h := 287) (r_mul (l := 0) (h := 284) (r_sub (l := 0) (h := 71) (r_add (l := 1) (h := 72) (r_mul (l := 0) (h := 63) r6 h_q_q_2_1 (by decide) (by decide) (by decide) (by decide) (by decide)) r18 (by decide) (by decide) (by decide) (by decide)) (r_n (x := (1 : Int32)) (l := 1) (h := 1) (by decide) (by decide)) (by decide) (by decide) (by decide) (by decide)) h_q_q_2_2_2_2_1 (by decide) (by decide) (by decide) (by decide) (by decide)) r12 (by decide) (by decide) (by decide) (by decide)) (fun z22 h19 => ?_)
              refine tp_nl ?_
              refine tp_b (t_f_X12_noOdds h19 h_q_q_1 h_q_q_2_1 h_q_q_2_2_2_2_1 h_q_q_2_2_2_2_2_1 h_q_q_2_2_2_2_2_2_1 h_q_q_2_2_2_2_2_2_2_1) (fun o50 h20 => ?_)
              refine tp_be (t_f_X12_whole h_q_q_1 h_q_q_2_1 h_q_q_2_2_2_2_1 h_q_q_2_2_2_2_2_1 h_q_q_2_2_2_2_2_2_1 h_q_q_2_2_2_2_2_2_2_1) (fun o54 e22 h21 => ?_)
              refine tp_b (t_f_X12_fraction (whole_ne0 h_q_q_2_2_2_2_2_2_1 e22) (r_n (x := (0 : Int32)) (l := 0) (h := 0) (by decide) (by decide))) (fun o59 h23 => ?_)
              obtain ⟨r24, r25, r26⟩ := h23
              exact tp_s ⟨r24, (r_w (l' := 0) (h' := 2) r25 (by decide) (by decide)), r26⟩
theorem t_f_X12_meanOf_J53 {k5_ : Int32 → Int64 → Option Int64} {v5_l4 : Int32} {v53_l2 : Int64} {N5 : Nat} (hk5 : ∀ (v5_l4 : Int32) (v5_l2 : Int64), R32 (0) (6) v5_l4 → (6 : Int) - v5_l4.toInt < (N5 : Nat) → TotP (k5_ v5_l4 v5_l2) (fun (r : Int64) => True)) (hm5 : (6 : Int) - v5_l4.toInt < ((N5 + 1 : Nat) : Int)) (h_v5_l4 : R32 (0) (5) v5_l4) : TotP (f_X12_meanOf_J53 k5_ v5_l4 v53_l2) (fun (r : Int64) => True) := by
  unfold f_X12_meanOf_J53
  exact hk5 _ _ (r_w (l' := 0) (h' := 6) (r_add (l := 1) (h := 6) h_v5_l4 (r_n (x := (1 : Int32)) (l := 1) (h := 1) (by decide) (by decide)) (by decide) (by decide) (by decide) (by decide)) (by decide) (by decide)) (ms_up (y := (1 : Int32)) h_v5_l4 (by decide) (by decide) (by decide) hm5)
theorem t_f_X12_meanOf_L5 {k1 : Int32} {m_v : TX12_v} {q_q : TX11_q} (h_k1 : R32 (0) (287) k1) (h_q_q_1 : R32 (2) (8) q_q.1) (h_q_q_2_1 : R32 (1) (9) q_q.2.1) (h_q_q_2_2_2_2_1 : R32 (1) (4) q_q.2.2.2.2.1) (h_q_q_2_2_2_2_2_1 : R32 (0) (5) q_q.2.2.2.2.2.1) (h_q_q_2_2_2_2_2_2_1 : R32 (0) (6) q_q.2.2.2.2.2.2.1) (h_q_q_2_2_2_2_2_2_2_1 : R32 (0) (6) q_q.2.2.2.2.2.2.2.1) : ∀ (n : Nat) (v5_l4 : Int32) (v5_l2 : Int64), R32 (0) (6) v5_l4 → (6 : Int) - v5_l4.toInt < (n : Int) → TotP (f_X12_meanOf_L5 k1 m_v q_q n v5_l4 v5_l2) (fun (r : Int64) => True) := by
  intro n
  induction n with
  | zero =>
    intro v5_l4 v5_l2 h_v5_l4 hm
    exact (ms_0u h_v5_l4 hm).elim
  | succ n ih =>
    intro v5_l4 v5_l2 h_v5_l4 hm
    rw [f_X12_meanOf_L5]
    refine tp_if (fun c1 => ?_) (fun c1 => ?_)
    · skip
      exact tp_s trivial
    · skip
      have r2 : R32 (1) (6) q_q.2.2.2.2.2.2.1 := r_nle1 (by decide) h_q_q_2_2_2_2_2_2_1 h_v5_l4 c1
      have r3 : R32 (0) (5) v5_l4 := r_nle2 (by decide) h_q_q_2_2_2_2_2_2_1 h_v5_l4 c1
      refine tp_g r3 (by decide) (by decide) ?_
      refine tp_if (fun c4 => ?_) (fun c4 => ?_)
      · skip
        have r5 : R32 (2) (2) (q_q.2.2.2.2.2.2.2.2.2.2.2.1 (v5_l4).toNatClampNeg) := r_eq1 (l := 2) (h := 2) (by decide) (by decide) (r_top _) (r_n (x := (2 : Int32)) (l := 2) (h := 2) (by decide) (by decide)) c4
        exact t_f_X12_meanOf_J53 ih hm r3
      · skip
        refine tp_b (t_f_X12_oddsOf r3 (r_w (l' := -1) (h' := 287) h_k1 (by decide) (by decide)) h_q_q_1 h_q_q_2_1 h_q_q_2_2_2_2_1 h_q_q_2_2_2_2_2_1 r2 h_q_q_2_2_2_2_2_2_2_1) (fun o36 h6 => ?_)
        refine tp_g r3 (by decide) (by decide) ?_
        refine tp_n0 (fun z48 => ?_)
        exact t_f_X12_meanOf_J53 ih hm r3
theorem t_f_X12_meanOf {k1 : Int32} {m_v : TX12_v} {q_q : TX11_q} (h_k1 : R32 (0) (287) k1) (h_q_q_1 : R32 (2) (8) q_q.1) (h_q_q_2_1 : R32 (1) (9) q_q.2.1) (h_q_q_2_2_2_2_1 : R32 (1) (4) q_q.2.2.2.2.1) (h_q_q_2_2_2_2_2_1 : R32 (0) (5) q_q.2.2.2.2.2.1) (h_q_q_2_2_2_2_2_2_1 : R32 (0) (6) q_q.2.2.2.2.2.2.1) (h_q_q_2_2_2_2_2_2_2_1 : R32 (0) (6) q_q.2.2.2.2.2.2.2.1) : TotP (f_X12_meanOf k1 m_v q_q) (fun (r : Int64) => True) := by
  unfold f_X12_meanOf
  exact t_f_X12_meanOf_L5 h_k1 h_q_q_1 h_q_q_2_1 h_q_q_2_2_2_2_1 h_q_q_2_2_2_2_2_1 h_q_q_2_2_2_2_2_2_1 h_q_q_2_2_2_2_2_2_2_1 FU _ _ (r_w (l' := 0) (h' := 6) (r_n (x := (0 : Int32)) (l := 0) (h := 0) (by decide) (by decide)) (by decide) (by decide)) (fu_up (r_w (l' := 0) (h' := 6) (r_n (x := (0 : Int32)) (l := 0) (h := 0) (by decide) (by decide)) (by decide) (by decide)) (by decide))
theorem t_f_X12_mean {k1 : Int32} {k2 : Int32} {k3 : Int32} {k4 : Int32} {m_t : TX12_t} {m_v : TX12_v} {q_q : TX11_q} (h_q_q_1 : R32 (2) (8) q_q.1) (h_q_q_2_1 : R32 (1) (9) q_q.2.1) (h_q_q_2_2_2_2_1 : R32 (1) (4) q_q.2.2.2.2.1) (h_q_q_2_2_2_2_2_1 : R32 (0) (5) q_q.2.2.2.2.2.1) (h_q_q_2_2_2_2_2_2_1 : R32 (0) (6) q_q.2.2.2.2.2.2.1) (h_q_q_2_2_2_2_2_2_2_1 : R32 (0) (6) q_q.2.2.2.2.2.2.2.1) : TotP (f_X12_mean k1 k2 k3 k4 m_t m_v q_q) (fun (r : Int64 × TX12_t) => R32 (0) (0) r.2.1 ∧ R32 (0) (2) r.2.2.1 ∧ R32 (-1) (-1) r.2.2.2) := by
  unfold f_X12_mean
  refine tp_e (f_X12_refusesQuestion.eq_1 _ _ _ _ _) ?_
  refine tp_niff (d_ne2 (r_n (x := (1 : Int32)) (l := 1) (h := 1) (by decide) (by decide)) (r_n (x := (0 : Int32)) (l := 0) (h := 0) (by decide) (by decide)) (by decide)) ?_
  refine tp_nn ?_
  refine tp_e (f_X12_in.eq_1 _ _ _) ?_
  refine tp_nif (fun c1 => ?_) (fun c1 => ?_)
  · skip
    have r2 : R32 (-2147483648) (-1) k1 := r_lt1 (by decide) (r_top _) (r_n (x := (0 : Int32)) (l := 0) (h := 0) (by decide) (by decide)) c1
    refine tp_nl ?_
    refine tp_nift (d_eq (r_n (x := (0 : Int32)) (l := 0) (h := 0) (by decide) (by decide)) (r_n (x := (0 : Int32)) (l := 0) (h := 0) (by decide) (by decide))) ?_
    refine tp_nl ?_
    refine tp_iff (d_nle (r_n (x := (1 : Int32)) (l := 1) (h := 1) (by decide) (by decide)) (r_n (x := (0 : Int32)) (l := 0) (h := 0) (by decide) (by decide)) (by decide)) ?_
    refine tp_e (f_X12_refused.eq_1 _ _) ?_
    refine tp_nl ?_
    exact tp_s ⟨(r_n (x := (0 : Int32)) (l := 0) (h := 0) (by decide) (by decide)), (r_w (l' := 0) (h' := 2) (r_n (x := (1 : Int32)) (l := 1) (h := 1) (by decide) (by decide)) (by decide) (by decide)), (r_n (x := (-1 : Int32)) (l := -1) (h := -1) (by decide) (by decide))⟩
  · skip
    have r3 : R32 (0) (2147483647) k1 := r_nlt1 (r_top _) (r_n (x := (0 : Int32)) (l := 0) (h := 0) (by decide) (by decide)) c1
    refine tp_nif (fun c4 => ?_) (fun c4 => ?_)
    · skip
      have r5 : R32 (2) (2147483647) k1 := r_lt2 (by decide) (r_sub (l := 1) (h := 7) h_q_q_1 (r_n (x := (1 : Int32)) (l := 1) (h := 1) (by decide) (by decide)) (by decide) (by decide) (by decide) (by decide)) r3 c4
      refine tp_nl ?_
      refine tp_nift (d_eq (r_n (x := (0 : Int32)) (l := 0) (h := 0) (by decide) (by decide)) (r_n (x := (0 : Int32)) (l := 0) (h := 0) (by decide) (by decide))) ?_
      refine tp_nl ?_
      refine tp_iff (d_nle (r_n (x := (1 : Int32)) (l := 1) (h := 1) (by decide) (by decide)) (r_n (x := (0 : Int32)) (l := 0) (h := 0) (by decide) (by decide)) (by decide)) ?_
      refine tp_e (f_X12_refused.eq_1 _ _) ?_
      refine tp_nl ?_
      exact tp_s ⟨(r_n (x := (0 : Int32)) (l := 0) (h := 0) (by decide) (by decide)), (r_w (l' := 0) (h' := 2) (r_n (x := (1 : Int32)) (l := 1) (h := 1) (by decide) (by decide)) (by decide) (by decide)), (r_n (x := (-1 : Int32)) (l := -1) (h := -1) (by decide) (by decide))⟩
    · skip
      have r6 : R32 (0) (7) k1 := r_nlt2 (r_sub (l := 1) (h := 7) h_q_q_1 (r_n (x := (1 : Int32)) (l := 1) (h := 1) (by decide) (by decide)) (by decide) (by decide) (by decide) (by decide)) r3 c4
      refine tp_nl ?_
      refine tp_niff (d_ne2 (r_n (x := (1 : Int32)) (l := 1) (h := 1) (by decide) (by decide)) (r_n (x := (0 : Int32)) (l := 0) (h := 0) (by decide) (by decide)) (by decide)) ?_
      refine tp_nn ?_
      refine tp_e (f_X12_in.eq_1 _ _ _) ?_
      refine tp_nif (fun c7 => ?_) (fun c7 => ?_)
      · skip
        have r8 : R32 (-2147483648) (-1) k3 := r_lt1 (by decide) (r_top _) (r_n (x := (0 : Int32)) (l := 0) (h := 0) (by decide) (by decide)) c7
        refine tp_nl ?_
        refine tp_nift (d_eq (r_n (x := (0 : Int32)) (l := 0) (h := 0) (by decide) (by decide)) (r_n (x := (0 : Int32)) (l := 0) (h := 0) (by decide) (by decide))) ?_
        refine tp_nl ?_
        refine tp_iff (d_nle (r_n (x := (1 : Int32)) (l := 1) (h := 1) (by decide) (by decide)) (r_n (x := (0 : Int32)) (l := 0) (h := 0) (by decide) (by decide)) (by decide)) ?_
        refine tp_e (f_X12_refused.eq_1 _ _) ?_
        refine tp_nl ?_
        exact tp_s ⟨(r_n (x := (0 : Int32)) (l := 0) (h := 0) (by decide) (by decide)), (r_w (l' := 0) (h' := 2) (r_n (x := (1 : Int32)) (l := 1) (h := 1) (by decide) (by decide)) (by decide) (by decide)), (r_n (x := (-1 : Int32)) (l := -1) (h := -1) (by decide) (by decide))⟩
      · skip
        have r9 : R32 (0) (2147483647) k3 := r_nlt1 (r_top _) (r_n (x := (0 : Int32)) (l := 0) (h := 0) (by decide) (by decide)) c7
        refine tp_nif (fun c10 => ?_) (fun c10 => ?_)
        · skip
          have r11 : R32 (1) (2147483647) k3 := r_lt2 (by decide) (r_sub (l := 0) (h := 3) h_q_q_2_2_2_2_1 (r_n (x := (1 : Int32)) (l := 1) (h := 1) (by decide) (by decide)) (by decide) (by decide) (by decide) (by decide)) r9 c10
          refine tp_nl ?_
          refine tp_nift (d_eq (r_n (x := (0 : Int32)) (l := 0) (h := 0) (by decide) (by decide)) (r_n (x := (0 : Int32)) (l := 0) (h := 0) (by decide) (by decide))) ?_
          refine tp_nl ?_
          refine tp_iff (d_nle (r_n (x := (1 : Int32)) (l := 1) (h := 1) (by decide) (by decide)) (r_n (x := (0 : Int32)) (l := 0) (h := 0) (by decide) (by decide)) (by decide)) ?_
          refine tp_e (f_X12_refused.eq_1 _ _) ?_
          refine tp_nl ?_
          exact tp_s ⟨(r_n (x := (0 : Int32)) (l := 0) (h := 0) (by decide) (by decide)), (r_w (l' := 0) (h' := 2) (r_n (x := (1 : Int32)) (l := 1) (h := 1) (by decide) (by decide)) (by decide) (by decide)), (r_n (x := (-1 : Int32)) (l := -1) (h := -1) (by decide) (by decide))⟩
        · skip
          have r12 : R32 (0) (3) k3 := r_nlt2 (r_sub (l := 0) (h := 3) h_q_q_2_2_2_2_1 (r_n (x := (1 : Int32)) (l := 1) (h := 1) (by decide) (by decide)) (by decide) (by decide) (by decide) (by decide)) r9 c10
          refine tp_nl ?_
          refine tp_niff (d_ne2 (r_n (x := (1 : Int32)) (l := 1) (h := 1) (by decide) (by decide)) (r_n (x := (0 : Int32)) (l := 0) (h := 0) (by decide) (by decide)) (by decide)) ?_
          refine tp_nn ?_
          refine tp_e (f_X12_in.eq_1 _ _ _) ?_
          refine tp_nif (fun c13 => ?_) (fun c13 => ?_)
          · skip
            have r14 : R32 (-2147483648) (0) k2 := r_lt1 (by decide) (r_top _) (r_n (x := (1 : Int32)) (l := 1) (h := 1) (by decide) (by decide)) c13
            refine tp_nl ?_
            refine tp_nift (d_eq (r_n (x := (0 : Int32)) (l := 0) (h := 0) (by decide) (by decide)) (r_n (x := (0 : Int32)) (l := 0) (h := 0) (by decide) (by decide))) ?_
            refine tp_nl ?_
            refine tp_iff (d_nle (r_n (x := (2 : Int32)) (l := 2) (h := 2) (by decide) (by decide)) (r_n (x := (0 : Int32)) (l := 0) (h := 0) (by decide) (by decide)) (by decide)) ?_
            refine tp_e (f_X12_refused.eq_1 _ _) ?_
            refine tp_nl ?_
            exact tp_s ⟨(r_n (x := (0 : Int32)) (l := 0) (h := 0) (by decide) (by decide)), (r_w (l' := 0) (h' := 2) (r_n (x := (2 : Int32)) (l := 2) (h := 2) (by decide) (by decide)) (by decide) (by decide)), (r_n (x := (-1 : Int32)) (l := -1) (h := -1) (by decide) (by decide))⟩
          · skip
            have r15 : R32 (1) (2147483647) k2 := r_nlt1 (r_top _) (r_n (x := (1 : Int32)) (l := 1) (h := 1) (by decide) (by decide)) c13
            refine tp_nif (fun c16 => ?_) (fun c16 => ?_)
            · skip
              have r17 : R32 (2) (2147483647) k2 := r_lt2 (by decide) h_q_q_2_1 r15 c16
              refine tp_nl ?_
              refine tp_nift (d_eq (r_n (x := (0 : Int32)) (l := 0) (h := 0) (by decide) (by decide)) (r_n (x := (0 : Int32)) (l := 0) (h := 0) (by decide) (by decide))) ?_
              refine tp_nl ?_
              refine tp_iff (d_nle (r_n (x := (2 : Int32)) (l := 2) (h := 2) (by decide) (by decide)) (r_n (x := (0 : Int32)) (l := 0) (h := 0) (by decide) (by decide)) (by decide)) ?_
              refine tp_e (f_X12_refused.eq_1 _ _) ?_
              refine tp_nl ?_
              exact tp_s ⟨(r_n (x := (0 : Int32)) (l := 0) (h := 0) (by decide) (by decide)), (r_w (l' := 0) (h' := 2) (r_n (x := (2 : Int32)) (l := 2) (h := 2) (by decide) (by decide)) (by decide) (by decide)), (r_n (x := (-1 : Int32)) (l := -1) (h := -1) (by decide) (by decide))⟩
            · skip
              have r18 : R32 (1) (9) k2 := r_nlt2 h_q_q_2_1 r15 c16
              refine tp_nl ?_
              refine tp_niff (d_ne2 (r_n (x := (1 : Int32)) (l := 1) (h := 1) (by decide) (by decide)) (r_n (x := (0 : Int32)) (l := 0) (h := 0) (by decide) (by decide)) (by decide)) ?_
              refine tp_nl ?_
              refine tp_ift (d_le (r_n (x := (0 : Int32)) (l := 0) (h := 0) (by decide) (by decide)) (r_n (x := (0 : Int32)) (l := 0) (h := 0) (by decide) (by decide)) (by decide)) ?_
              refine tp_e (f_X12_question.eq_1 _ _ _ _) ?_
              refine tp_nn ?_
              refine tp_n (P := fun z => R32 (0) (287) z) (r_add (l := 0) (h := 287) (r_mul (l := 0) (h := 284) (r_sub (l := 0) (h := 71) (r_add (l := 1) (h := 72) (r_mul (l := 0) (h := 63) r6 h_q_q_2_1 (by decide) (by decide) (by decide) (by decide) (by decide)) r18 (by decide) (by decide) (by decide) (by decide)) (r_n (x := (1 : Int32)) (l := 1) (h := 1) (by decide) (by decide)) (by decide) (by decide) (by decide) (by decide)) h_q_q_2_2_2_2_1 (by decide) (by decide) (by decide) (by decide) (by decide)) r12 (by decide) (by decide) (by decide) (by decide)) (fun z22 h19 => ?_)
              refine tp_nl ?_
              refine tp_b (t_f_X12_meanOf h19 h_q_q_1 h_q_q_2_1 h_q_q_2_2_2_2_1 h_q_q_2_2_2_2_2_1 h_q_q_2_2_2_2_2_2_1 h_q_q_2_2_2_2_2_2_2_1) (fun o50 h20 => ?_)
              refine tp_be (t_f_X12_whole h_q_q_1 h_q_q_2_1 h_q_q_2_2_2_2_1 h_q_q_2_2_2_2_2_1 h_q_q_2_2_2_2_2_2_1 h_q_q_2_2_2_2_2_2_2_1) (fun o54 e22 h21 => ?_)
              refine tp_b (t_f_X12_fraction (whole_ne0 h_q_q_2_2_2_2_2_2_1 e22) (r_n (x := (0 : Int32)) (l := 0) (h := 0) (by decide) (by decide))) (fun o59 h23 => ?_)
              obtain ⟨r24, r25, r26⟩ := h23
              exact tp_s ⟨r24, (r_w (l' := 0) (h' := 2) r25 (by decide) (by decide)), r26⟩
