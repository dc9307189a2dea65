/-! the functions answer, part 0 -/
theorem t_f_X7_put_L3 {k1 : Int32} : ∀ (n : Nat) (v3_l2 : Int32) (v3_r_r : TX7_r), R32 (-8) (24) v3_l2 → R32 (0) (900) v3_r_r.2.1 → v3_l2.toInt - (-8 : Int) < (n : Int) → TotP (f_X7_put_L3 k1 n v3_l2 v3_r_r) (fun (r : TX7_r) => R32 (0) (900) r.2.1) := by
  intro n
  induction n with
  | zero =>
    intro v3_l2 v3_r_r h_v3_l2 h_v3_r_r_2_1 hm
    exact (ms_0d h_v3_l2 hm).elim
  | succ n ih =>
    intro v3_l2 v3_r_r h_v3_l2 h_v3_r_r_2_1 hm
    rw [f_X7_put_L3]
    refine tp_if (fun c1 => ?_) (fun c1 => ?_)
    · skip
      have r2 : R32 (-8) (-1) v3_l2 := r_lt1 (by decide) h_v3_l2 (r_n (x := (0 : Int32)) (l := 0) (h := 0) (by decide) (by decide)) c1
      exact tp_s h_v3_r_r_2_1
    · skip
      have r3 : R32 (0) (24) v3_l2 := r_nlt1 h_v3_l2 (r_n (x := (0 : Int32)) (l := 0) (h := 0) (by decide) (by decide)) c1
      refine tp_if (fun c4 => ?_) (fun c4 => ?_)
      · skip
        have r5 : R32 (900) (900) v3_r_r.2.1 := r_le2 (r_n (x := (900 : Int32)) (l := 900) (h := 900) (by decide) (by decide)) h_v3_r_r_2_1 c4
        exact tp_s (r_w (l' := 0) (h' := 900) r5 (by decide) (by decide))
      · skip
        have r6 : R32 (0) (899) v3_r_r.2.1 := r_nle2 (by decide) (r_n (x := (900 : Int32)) (l := 900) (h := 900) (by decide) (by decide)) h_v3_r_r_2_1 c4
        refine tp_g r6 (by decide) (by decide) ?_
        exact ih _ _ (r_w (l' := -8) (h' := 24) (r_add (l := -8) (h := 16) r3 (r_n (x := (-8 : Int32)) (l := -8) (h := -8) (by decide) (by decide)) (by decide) (by decide) (by decide) (by decide)) (by decide) (by decide)) (r_w (l' := 0) (h' := 900) (r_add (l := 1) (h := 900) r6 (r_n (x := (1 : Int32)) (l := 1) (h := 1) (by decide) (by decide)) (by decide) (by decide) (by decide) (by decide)) (by decide) (by decide)) (ms_dn (y := (-8 : Int32)) r3 (by decide) (by decide) (by decide) hm)
theorem t_f_X7_put {k1 : Int32} {r_r : TX7_r} (h_r_r_2_1 : R32 (0) (900) r_r.2.1) : TotP (f_X7_put k1 r_r) (fun (r : TX7_r) => R32 (0) (900) r.2.1) := by
  unfold f_X7_put
  exact t_f_X7_put_L3  FU _ _ (r_w (l' := -8) (h' := 24) (r_n (x := (24 : Int32)) (l := 24) (h := 24) (by decide) (by decide)) (by decide) (by decide)) h_r_r_2_1 (fu_dn (r_w (l' := -8) (h' := 24) (r_n (x := (24 : Int32)) (l := 24) (h := 24) (by decide) (by decide)) (by decide) (by decide)) (by decide))
theorem t_f_X2_keep {h_h : TX2_h} {n_n : TX4_n} {n2_n : TX4_n} (h_h_h_1 : R32 (0) (15) h_h.1) (h_h_h_2_1 : R32 (0) (16) h_h.2.1) (h_h_h_2_2 : R32 (0) (3) h_h.2.2) : TotP (f_X2_keep h_h n_n n2_n) (fun (r : TX2_h × TX4_n) => R32 (0) (15) r.1.1 ∧ R32 (1) (16) r.1.2.1 ∧ R32 (0) (3) r.1.2.2) := by
  unfold f_X2_keep
  refine tp_g (r_mod (c := 16) (h := 15) (y := (16 : Int32)) (r_add (l := 0) (h := 31) h_h_h_1 h_h_h_2_1 (by decide) (by decide) (by decide) (by decide)) (by decide) (by decide) (by decide) (by decide)) (by decide) (by decide) ?_
  refine tp_e (f_X4_become.eq_1 _ _) ?_
  refine tp_nn ?_
  refine tp_e (f_X4_letDownAs.eq_1 _ _) ?_
  refine tp_nl ?_
  refine tp_nl ?_
  refine tp_if (fun c1 => ?_) (fun c1 => ?_)
  · skip
    have r2 : R32 (16) (16) h_h.2.1 := r_le2 (r_n (x := (16 : Int32)) (l := 16) (h := 16) (by decide) (by decide)) h_h_h_2_1 c1
    exact tp_s ⟨(r_mod (c := 16) (h := 15) (y := (16 : Int32)) (r_add (l := 1) (h := 16) h_h_h_1 (r_n (x := (1 : Int32)) (l := 1) (h := 1) (by decide) (by decide)) (by decide) (by decide) (by decide) (by decide)) (by decide) (by decide) (by decide) (by decide)), (r_w (l' := 1) (h' := 16) r2 (by decide) (by decide)), h_h_h_2_2⟩
  · skip
    have r3 : R32 (0) (15) h_h.2.1 := r_nle2 (by decide) (r_n (x := (16 : Int32)) (l := 16) (h := 16) (by decide) (by decide)) h_h_h_2_1 c1
    exact tp_s ⟨h_h_h_1, (r_add (l := 1) (h := 16) r3 (r_n (x := (1 : Int32)) (l := 1) (h := 1) (by decide) (by decide)) (by decide) (by decide) (by decide) (by decide)), h_h_h_2_2⟩
theorem t_f_X2_takeBack {h_h : TX2_h} {n_n : TX4_n} {n2_n : TX4_n} (h_h_h_1 : R32 (0) (15) h_h.1) (h_h_h_2_1 : R32 (1) (16) h_h.2.1) (h_h_h_2_2 : R32 (0) (3) h_h.2.2) : TotP (f_X2_takeBack h_h n_n n2_n) (fun (r : TX2_h × TX4_n) => R32 (0) (15) r.1.1 ∧ R32 (0) (15) r.1.2.1 ∧ R32 (0) (3) r.1.2.2) := by
  unfold f_X2_takeBack
  refine tp_iff (d_nle h_h_h_2_1 (r_n (x := (0 : Int32)) (l := 0) (h := 0) (by decide) (by decide)) (by decide)) ?_
  refine tp_g (r_mod (c := 16) (h := 15) (y := (16 : Int32)) (r_add (l := 0) (h := 30) h_h_h_1 (r_sub (l := 0) (h := 15) h_h_h_2_1 (r_n (x := (1 : Int32)) (l := 1) (h := 1) (by decide) (by decide)) (by decide) (by decide) (by decide) (by decide)) (by decide) (by decide) (by decide) (by decide)) (by decide) (by decide) (by decide) (by decide)) (by decide) (by decide) ?_
  refine tp_e (f_X4_become.eq_1 _ _) ?_
  refine tp_nn ?_
  refine tp_e (f_X4_letDownAs.eq_1 _ _) ?_
  refine tp_nl ?_
  refine tp_nl ?_
  exact tp_s ⟨h_h_h_1, (r_sub (l := 0) (h := 15) h_h_h_2_1 (r_n (x := (1 : Int32)) (l := 1) (h := 1) (by decide) (by decide)) (by decide) (by decide) (by decide) (by decide)), h_h_h_2_2⟩
theorem t_f_X2_setMark {h_h : TX2_h} {n_n : TX4_n} {n2_n : TX4_n} (h_h_h_1 : R32 (0) (15) h_h.1) (h_h_h_2_1 : R32 (0) (16) h_h.2.1) (h_h_h_2_2 : R32 (0) (2) h_h.2.2) : TotP (f_X2_setMark h_h n_n n2_n) (fun (r : Int32 × TX2_h × TX4_n) => R32 (0) (2) r.1 ∧ R32 (0) (15) r.2.1.1 ∧ R32 (0) (16) r.2.1.2.1 ∧ R32 (1) (3) r.2.1.2.2) := by
  unfold f_X2_setMark
  refine tp_ift (d_lt h_h_h_2_2 (r_n (x := (3 : Int32)) (l := 3) (h := 3) (by decide) (by decide)) (by decide)) ?_
  refine tp_g h_h_h_2_2 (by decide) (by decide) ?_
  refine tp_e (f_X4_become.eq_1 _ _) ?_
  refine tp_nn ?_
  refine tp_e (f_X4_letDownAs.eq_1 _ _) ?_
  refine tp_nl ?_
  refine tp_nl ?_
  exact tp_s ⟨(r_sub (l := 0) (h := 2) (r_add (l := 1) (h := 3) h_h_h_2_2 (r_n (x := (1 : Int32)) (l := 1) (h := 1) (by decide) (by decide)) (by decide) (by decide) (by decide) (by decide)) (r_n (x := (1 : Int32)) (l := 1) (h := 1) (by decide) (by decide)) (by decide) (by decide) (by decide) (by decide)), h_h_h_1, h_h_h_2_1, (r_add (l := 1) (h := 3) h_h_h_2_2 (r_n (x := (1 : Int32)) (l := 1) (h := 1) (by decide) (by decide)) (by decide) (by decide) (by decide) (by decide))⟩
theorem t_f_X2_goBack {k1 : Int32} {h_h : TX2_h} {n_n : TX4_n} {n2_n : TX4_n} (h_k1 : R32 (0) (2) k1) (h_h_h_1 : R32 (0) (15) h_h.1) (h_h_h_2_1 : R32 (0) (16) h_h.2.1) (h_h_h_2_2 : R32 (0) (3) h_h.2.2) : TotP (f_X2_goBack k1 h_h n_n n2_n) (fun (r : TX2_h × TX4_n) => R32 (0) (15) r.1.1 ∧ R32 (0) (16) r.1.2.1 ∧ R32 (0) (3) r.1.2.2) := by
  unfold f_X2_goBack
  refine tp_e (f_X10_within.eq_1 _ _ _) ?_
  refine tp_niff (d_nlt h_k1 (r_n (x := (0 : Int32)) (l := 0) (h := 0) (by decide) (by decide)) (by decide)) ?_
  refine tp_nif (fun c1 => ?_) (fun c1 => ?_)
  · skip
    have r2 : R32 (-1) (1) (h_h.2.2 - (1 : Int32)) := r_lt1 (by decide) (r_sub (l := -1) (h := 2) h_h_h_2_2 (r_n (x := (1 : Int32)) (l := 1) (h := 1) (by decide) (by decide)) (by decide) (by decide) (by decide) (by decide)) h_k1 c1
    refine tp_nl ?_
    refine tp_ift (d_eq (r_n (x := (0 : Int32)) (l := 0) (h := 0) (by decide) (by decide)) (r_n (x := (0 : Int32)) (l := 0) (h := 0) (by decide) (by decide))) ?_
    exact tp_s ⟨h_h_h_1, h_h_h_2_1, h_h_h_2_2⟩
  · skip
    have r3 : R32 (0) (2) (h_h.2.2 - (1 : Int32)) := r_nlt1 (r_sub (l := -1) (h := 2) h_h_h_2_2 (r_n (x := (1 : Int32)) (l := 1) (h := 1) (by decide) (by decide)) (by decide) (by decide) (by decide) (by decide)) h_k1 c1
    refine tp_nl ?_
    refine tp_iff (d_ne2 (r_n (x := (1 : Int32)) (l := 1) (h := 1) (by decide) (by decide)) (r_n (x := (0 : Int32)) (l := 0) (h := 0) (by decide) (by decide)) (by decide)) ?_
    refine tp_g h_k1 (by decide) (by decide) ?_
    refine tp_e (f_X4_become.eq_1 _ _) ?_
    refine tp_nn ?_
    refine tp_e (f_X4_letDownAs.eq_1 _ _) ?_
    refine tp_nl ?_
    refine tp_nl ?_
    exact tp_s ⟨h_h_h_1, (r_w (l' := 0) (h' := 16) (r_n (x := (0 : Int32)) (l := 0) (h := 0) (by decide) (by decide)) (by decide) (by decide)), h_h_h_2_2⟩
theorem t_f_X10_let {k1 : Int32} {k2 : Int32} {k3 : Int32} {k4 : Int32} {x_x : TX10_x} {n_n : TX4_n} {p_p : TX6_p} {n2_n : TX4_n} {h_h : TX2_h} (h_p_p_1 : R32 (0) (8) p_p.1) (h_p_p_2_1 : R32 (0) (9) p_p.2.1) (h_p_p_2_2_2_2_1 : R32 (0) (4) p_p.2.2.2.2.1) (h_p_p_2_2_2_2_2_1 : R32 (0) (5) p_p.2.2.2.2.2.1) (h_p_p_2_2_2_2_2_2_1 : R32 (0) (6) p_p.2.2.2.2.2.2.1) (h_p_p_2_2_2_2_2_2_2_1 : R32 (0) (6) p_p.2.2.2.2.2.2.2.1) (h_h_h_1 : R32 (0) (15) h_h.1) (h_h_h_2_1 : R32 (0) (16) h_h.2.1) (h_h_h_2_2 : R32 (0) (3) h_h.2.2) : TotP (f_X10_let k1 k2 k3 k4 x_x n_n p_p n2_n h_h) (fun (r : Int32 × TX10_x × TX4_n × TX4_n × TX2_h) => R32 (0) (1) r.1 ∧ R32 (0) (5) r.2.1.1 ∧ R32 (0) (15) r.2.2.2.2.1 ∧ R32 (0) (16) r.2.2.2.2.2.1 ∧ R32 (0) (3) r.2.2.2.2.2.2) := by
  unfold f_X10_let
  refine tp_bu (f_X10_letTrouble.eq_1 _ _ _ _ _ _) ?_
  refine tp_bn ?_
  refine tp_e (f_X10_askerTrouble.eq_1 _ _) ?_
  refine tp_nn ?_
  refine tp_e (f_X6_hasAsker.eq_1 _ _) ?_
  refine tp_nn ?_
  refine tp_e (f_X10_within.eq_1 _ _ _) ?_
  refine tp_nif (fun c1 => ?_) (fun c1 => ?_)
  · skip
    have r2 : R32 (-2147483648) (-1) k1 := r_lt1 (by decide) (r_top _) (r_n (x := (0 : Int32)) (l := 0) (h := 0) (by decide) (by decide)) c1
    refine tp_nl ?_
    refine tp_nl ?_
    refine tp_nift (d_eq (r_n (x := (0 : Int32)) (l := 0) (h := 0) (by decide) (by decide)) (r_n (x := (0 : Int32)) (l := 0) (h := 0) (by decide) (by decide))) ?_
    refine tp_nl ?_
    refine tp_biff (d_ne2 (r_n (x := (1 : Int32)) (l := 1) (h := 1) (by decide) (by decide)) (r_n (x := (0 : Int32)) (l := 0) (h := 0) (by decide) (by decide)) (by decide)) ?_
    refine tp_bu (f_X10_letTrouble_J22.eq_1 _ _ _ _) ?_
    refine tp_biff (d_ne2 (r_n (x := (1 : Int32)) (l := 1) (h := 1) (by decide) (by decide)) (r_n (x := (0 : Int32)) (l := 0) (h := 0) (by decide) (by decide)) (by decide)) ?_
    refine tp_bu (f_X10_letTrouble_J59.eq_1 _) ?_
    refine tp_bs ?_
    refine tp_e (f_X10_refused.eq_1 _ _) ?_
    refine tp_niff (d_ne2 (r_n (x := (1 : Int32)) (l := 1) (h := 1) (by decide) (by decide)) (r_n (x := (0 : Int32)) (l := 0) (h := 0) (by decide) (by decide)) (by decide)) ?_
    refine tp_nl ?_
    refine tp_iff (d_ne2 (r_n (x := (1 : Int32)) (l := 1) (h := 1) (by decide) (by decide)) (r_n (x := (0 : Int32)) (l := 0) (h := 0) (by decide) (by decide)) (by decide)) ?_
    exact tp_s ⟨(r_w (l' := 0) (h' := 1) (r_n (x := (0 : Int32)) (l := 0) (h := 0) (by decide) (by decide)) (by decide) (by decide)), (r_w (l' := 0) (h' := 5) (r_n (x := (1 : Int32)) (l := 1) (h := 1) (by decide) (by decide)) (by decide) (by decide)), h_h_h_1, h_h_h_2_1, h_h_h_2_2⟩
  · skip
    have r3 : R32 (0) (2147483647) k1 := r_nlt1 (r_top _) (r_n (x := (0 : Int32)) (l := 0) (h := 0) (by decide) (by decide)) c1
    refine tp_nif (fun c4 => ?_) (fun c4 => ?_)
    · skip
      refine tp_nl ?_
      refine tp_nl ?_
      refine tp_nift (d_eq (r_n (x := (0 : Int32)) (l := 0) (h := 0) (by decide) (by decide)) (r_n (x := (0 : Int32)) (l := 0) (h := 0) (by decide) (by decide))) ?_
      refine tp_nl ?_
      refine tp_biff (d_ne2 (r_n (x := (1 : Int32)) (l := 1) (h := 1) (by decide) (by decide)) (r_n (x := (0 : Int32)) (l := 0) (h := 0) (by decide) (by decide)) (by decide)) ?_
      refine tp_bu (f_X10_letTrouble_J22.eq_1 _ _ _ _) ?_
      refine tp_biff (d_ne2 (r_n (x := (1 : Int32)) (l := 1) (h := 1) (by decide) (by decide)) (r_n (x := (0 : Int32)) (l := 0) (h := 0) (by decide) (by decide)) (by decide)) ?_
      refine tp_bu (f_X10_letTrouble_J59.eq_1 _) ?_
      refine tp_bs ?_
      refine tp_e (f_X10_refused.eq_1 _ _) ?_
      refine tp_niff (d_ne2 (r_n (x := (1 : Int32)) (l := 1) (h := 1) (by decide) (by decide)) (r_n (x := (0 : Int32)) (l := 0) (h := 0) (by decide) (by decide)) (by decide)) ?_
      refine tp_nl ?_
      refine tp_iff (d_ne2 (r_n (x := (1 : Int32)) (l := 1) (h := 1) (by decide) (by decide)) (r_n (x := (0 : Int32)) (l := 0) (h := 0) (by decide) (by decide)) (by decide)) ?_
      exact tp_s ⟨(r_w (l' := 0) (h' := 1) (r_n (x := (0 : Int32)) (l := 0) (h := 0) (by decide) (by decide)) (by decide) (by decide)), (r_w (l' := 0) (h' := 5) (r_n (x := (1 : Int32)) (l := 1) (h := 1) (by decide) (by decide)) (by decide) (by decide)), h_h_h_1, h_h_h_2_1, h_h_h_2_2⟩
    · skip
      have r5 : R32 (0) (4) (p_p.2.2.2.2.2.1 - (1 : Int32)) := r_nlt1 (r_sub (l := -1) (h := 4) h_p_p_2_2_2_2_2_1 (r_n (x := (1 : Int32)) (l := 1) (h := 1) (by decide) (by decide)) (by decide) (by decide) (by decide) (by decide)) r3 c4
      have r6 : R32 (0) (4) k1 := r_nlt2 (r_sub (l := -1) (h := 4) h_p_p_2_2_2_2_2_1 (r_n (x := (1 : Int32)) (l := 1) (h := 1) (by decide) (by decide)) (by decide) (by decide) (by decide) (by decide)) r3 c4
      refine tp_nl ?_
      refine tp_nl ?_
      refine tp_niff (d_ne2 (r_n (x := (1 : Int32)) (l := 1) (h := 1) (by decide) (by decide)) (r_n (x := (0 : Int32)) (l := 0) (h := 0) (by decide) (by decide)) (by decide)) ?_
      refine tp_nl ?_
      refine tp_bift (d_eq (r_n (x := (0 : Int32)) (l := 0) (h := 0) (by decide) (by decide)) (r_n (x := (0 : Int32)) (l := 0) (h := 0) (by decide) (by decide))) ?_
      refine tp_bn ?_
      refine tp_e (f_X10_questionTrouble.eq_1 _ _ _ _) ?_
      refine tp_nn ?_
      refine tp_e (f_X6_hasSpot.eq_1 _ _) ?_
      refine tp_nn ?_
      refine tp_e (f_X10_within.eq_1 _ _ _) ?_
      refine tp_nif (fun c7 => ?_) (fun c7 => ?_)
      · skip
        have r8 : R32 (-2147483648) (-1) k2 := r_lt1 (by decide) (r_top _) (r_n (x := (0 : Int32)) (l := 0) (h := 0) (by decide) (by decide)) c7
        refine tp_nl ?_
        refine tp_nl ?_
        refine tp_nift (d_eq (r_n (x := (0 : Int32)) (l := 0) (h := 0) (by decide) (by decide)) (r_n (x := (0 : Int32)) (l := 0) (h := 0) (by decide) (by decide))) ?_
        refine tp_nl ?_
        refine tp_bu (f_X10_letTrouble_J22.eq_1 _ _ _ _) ?_
        refine tp_biff (d_ne2 (r_n (x := (1 : Int32)) (l := 1) (h := 1) (by decide) (by decide)) (r_n (x := (0 : Int32)) (l := 0) (h := 0) (by decide) (by decide)) (by decide)) ?_
        refine tp_bu (f_X10_letTrouble_J59.eq_1 _) ?_
        refine tp_bs ?_
        refine tp_e (f_X10_refused.eq_1 _ _) ?_
        refine tp_niff (d_ne2 (r_n (x := (1 : Int32)) (l := 1) (h := 1) (by decide) (by decide)) (r_n (x := (0 : Int32)) (l := 0) (h := 0) (by decide) (by decide)) (by decide)) ?_
        refine tp_nl ?_
        refine tp_iff (d_ne2 (r_n (x := (1 : Int32)) (l := 1) (h := 1) (by decide) (by decide)) (r_n (x := (0 : Int32)) (l := 0) (h := 0) (by decide) (by decide)) (by decide)) ?_
        exact tp_s ⟨(r_w (l' := 0) (h' := 1) (r_n (x := (0 : Int32)) (l := 0) (h := 0) (by decide) (by decide)) (by decide) (by decide)), (r_w (l' := 0) (h' := 5) (r_n (x := (1 : Int32)) (l := 1) (h := 1) (by decide) (by decide)) (by decide) (by decide)), h_h_h_1, h_h_h_2_1, h_h_h_2_2⟩
      · skip
        have r9 : R32 (0) (2147483647) k2 := r_nlt1 (r_top _) (r_n (x := (0 : Int32)) (l := 0) (h := 0) (by decide) (by decide)) c7
        refine tp_nif (fun c10 => ?_) (fun c10 => ?_)
        · skip
          refine tp_nl ?_
          refine tp_nl ?_
          refine tp_nift (d_eq (r_n (x := (0 : Int32)) (l := 0) (h := 0) (by decide) (by decide)) (r_n (x := (0 : Int32)) (l := 0) (h := 0) (by decide) (by decide))) ?_
          refine tp_nl ?_
          refine tp_bu (f_X10_letTrouble_J22.eq_1 _ _ _ _) ?_
          refine tp_biff (d_ne2 (r_n (x := (1 : Int32)) (l := 1) (h := 1) (by decide) (by decide)) (r_n (x := (0 : Int32)) (l := 0) (h := 0) (by decide) (by decide)) (by decide)) ?_
          refine tp_bu (f_X10_letTrouble_J59.eq_1 _) ?_
          refine tp_bs ?_
          refine tp_e (f_X10_refused.eq_1 _ _) ?_
          refine tp_niff (d_ne2 (r_n (x := (1 : Int32)) (l := 1) (h := 1) (by decide) (by decide)) (r_n (x := (0 : Int32)) (l := 0) (h := 0) (by decide) (by decide)) (by decide)) ?_
          refine tp_nl ?_
          refine tp_iff (d_ne2 (r_n (x := (1 : Int32)) (l := 1) (h := 1) (by decide) (by decide)) (r_n (x := (0 : Int32)) (l := 0) (h := 0) (by decide) (by decide)) (by decide)) ?_
          exact tp_s ⟨(r_w (l' := 0) (h' := 1) (r_n (x := (0 : Int32)) (l := 0) (h := 0) (by decide) (by decide)) (by decide) (by decide)), (r_w (l' := 0) (h' := 5) (r_n (x := (1 : Int32)) (l := 1) (h := 1) (by decide) (by decide)) (by decide) (by decide)), h_h_h_1, h_h_h_2_1, h_h_h_2_2⟩
        · skip
          have r11 : R32 (0) (7) (p_p.1 - (1 : Int32)) := r_nlt1 (r_sub (l := -1) (h := 7) h_p_p_1 (r_n (x := (1 : Int32)) (l := 1) (h := 1) (by decide) (by decide)) (by decide) (by decide) (by decide) (by decide)) r9 c10
          have r12 : R32 (0) (7) k2 := r_nlt2 (r_sub (l := -1) (h := 7) h_p_p_1 (r_n (x := (1 : Int32)) (l := 1) (h := 1) (by decide) (by decide)) (by decide) (by decide) (by decide) (by decide)) r9 c10
          refine tp_nl ?_
          refine tp_nl ?_
          refine tp_niff (d_ne2 (r_n (x := (1 : Int32)) (l := 1) (h := 1) (by decide) (by decide)) (r_n (x := (0 : Int32)) (l := 0) (h := 0) (by decide) (by decide)) (by decide)) ?_
          refine tp_nn ?_
          refine tp_e (f_X6_hasBait.eq_1 _ _) ?_
          refine tp_nn ?_
          refine tp_e (f_X10_within.eq_1 _ _ _) ?_
          refine tp_nif (fun c13 => ?_) (fun c13 => ?_)
          · skip
            have r14 : R32 (-2147483648) (-1) k4 := r_lt1 (by decide) (r_top _) (r_n (x := (0 : Int32)) (l := 0) (h := 0) (by decide) (by decide)) c13
            refine tp_nl ?_
            refine tp_nl ?_
            refine tp_nift (d_eq (r_n (x := (0 : Int32)) (l := 0) (h := 0) (by decide) (by decide)) (r_n (x := (0 : Int32)) (l := 0) (h := 0) (by decide) (by decide))) ?_
            refine tp_nl ?_
            refine tp_bu (f_X10_letTrouble_J22.eq_1 _ _ _ _) ?_
            refine tp_biff (d_ne2 (r_n (x := (1 : Int32)) (l := 1) (h := 1) (by decide) (by decide)) (r_n (x := (0 : Int32)) (l := 0) (h := 0) (by decide) (by decide)) (by decide)) ?_
            refine tp_bu (f_X10_letTrouble_J59.eq_1 _) ?_
            refine tp_bs ?_
            refine tp_e (f_X10_refused.eq_1 _ _) ?_
            refine tp_niff (d_ne2 (r_n (x := (1 : Int32)) (l := 1) (h := 1) (by decide) (by decide)) (r_n (x := (0 : Int32)) (l := 0) (h := 0) (by decide) (by decide)) (by decide)) ?_
            refine tp_nl ?_
            refine tp_iff (d_ne2 (r_n (x := (1 : Int32)) (l := 1) (h := 1) (by decide) (by decide)) (r_n (x := (0 : Int32)) (l := 0) (h := 0) (by decide) (by decide)) (by decide)) ?_
            exact tp_s ⟨(r_w (l' := 0) (h' := 1) (r_n (x := (0 : Int32)) (l := 0) (h := 0) (by decide) (by decide)) (by decide) (by decide)), (r_w (l' := 0) (h' := 5) (r_n (x := (1 : Int32)) (l := 1) (h := 1) (by decide) (by decide)) (by decide) (by decide)), h_h_h_1, h_h_h_2_1, h_h_h_2_2⟩
          · skip
            have r15 : R32 (0) (2147483647) k4 := r_nlt1 (r_top _) (r_n (x := (0 : Int32)) (l := 0) (h := 0) (by decide) (by decide)) c13
            refine tp_nif (fun c16 => ?_) (fun c16 => ?_)
            · skip
              refine tp_nl ?_
              refine tp_nl ?_
              refine tp_nift (d_eq (r_n (x := (0 : Int32)) (l := 0) (h := 0) (by decide) (by decide)) (r_n (x := (0 : Int32)) (l := 0) (h := 0) (by decide) (by decide))) ?_
              refine tp_nl ?_
              refine tp_bu (f_X10_letTrouble_J22.eq_1 _ _ _ _) ?_
              refine tp_biff (d_ne2 (r_n (x := (1 : Int32)) (l := 1) (h := 1) (by decide) (by decide)) (r_n (x := (0 : Int32)) (l := 0) (h := 0) (by decide) (by decide)) (by decide)) ?_
              refine tp_bu (f_X10_letTrouble_J59.eq_1 _) ?_
              refine tp_bs ?_
              refine tp_e (f_X10_refused.eq_1 _ _) ?_
              refine tp_niff (d_ne2 (r_n (x := (1 : Int32)) (l := 1) (h := 1) (by decide) (by decide)) (r_n (x := (0 : Int32)) (l := 0) (h := 0) (by decide) (by decide)) (by decide)) ?_
              refine tp_nl ?_
              refine tp_iff (d_ne2 (r_n (x := (1 : Int32)) (l := 1) (h := 1) (by decide) (by decide)) (r_n (x := (0 : Int32)) (l := 0) (h := 0) (by decide) (by decide)) (by decide)) ?_
              exact tp_s ⟨(r_w (l' := 0) (h' := 1) (r_n (x := (0 : Int32)) (l := 0) (h := 0) (by decide) (by decide)) (by decide) (by decide)), (r_w (l' := 0) (h' := 5) (r_n (x := (1 : Int32)) (l := 1) (h := 1) (by decide) (by decide)) (by decide) (by decide)), h_h_h_1, h_h_h_2_1, h_h_h_2_2⟩
            · skip
              have r17 : R32 (0) (3) (p_p.2.2.2.2.1 - (1 : Int32)) := r_nlt1 (r_sub (l := -1) (h := 3) h_p_p_2_2_2_2_1 (r_n (x := (1 : Int32)) (l := 1) (h := 1) (by decide) (by decide)) (by decide) (by decide) (by decide) (by decide)) r15 c16
              have r18 : R32 (0) (3) k4 := r_nlt2 (r_sub (l := -1) (h := 3) h_p_p_2_2_2_2_1 (r_n (x := (1 : Int32)) (l := 1) (h := 1) (by decide) (by decide)) (by decide) (by decide) (by decide) (by decide)) r15 c16
              refine tp_nl ?_
              refine tp_nl ?_
              refine tp_niff (d_ne2 (r_n (x := (1 : Int32)) (l := 1) (h := 1) (by decide) (by decide)) (r_n (x := (0 : Int32)) (l := 0) (h := 0) (by decide) (by decide)) (by decide)) ?_
              refine tp_nn ?_
              refine tp_e (f_X10_within.eq_1 _ _ _) ?_
              refine tp_nif (fun c19 => ?_) (fun c19 => ?_)
              · skip
                have r20 : R32 (-2147483648) (0) k3 := r_lt1 (by decide) (r_top _) (r_n (x := (1 : Int32)) (l := 1) (h := 1) (by decide) (by decide)) c19
                refine tp_nl ?_
                refine tp_nift (d_eq (r_n (x := (0 : Int32)) (l := 0) (h := 0) (by decide) (by decide)) (r_n (x := (0 : Int32)) (l := 0) (h := 0) (by decide) (by decide))) ?_
                refine tp_nl ?_
                refine tp_bu (f_X10_letTrouble_J22.eq_1 _ _ _ _) ?_
                refine tp_biff (d_ne2 (r_n (x := (2 : Int32)) (l := 2) (h := 2) (by decide) (by decide)) (r_n (x := (0 : Int32)) (l := 0) (h := 0) (by decide) (by decide)) (by decide)) ?_
                refine tp_bu (f_X10_letTrouble_J59.eq_1 _) ?_
                refine tp_bs ?_
                refine tp_e (f_X10_refused.eq_1 _ _) ?_
                refine tp_niff (d_ne2 (r_n (x := (2 : Int32)) (l := 2) (h := 2) (by decide) (by decide)) (r_n (x := (0 : Int32)) (l := 0) (h := 0) (by decide) (by decide)) (by decide)) ?_
                refine tp_nl ?_
                refine tp_iff (d_ne2 (r_n (x := (1 : Int32)) (l := 1) (h := 1) (by decide) (by decide)) (r_n (x := (0 : Int32)) (l := 0) (h := 0) (by decide) (by decide)) (by decide)) ?_
                exact tp_s ⟨(r_w (l' := 0) (h' := 1) (r_n (x := (0 : Int32)) (l := 0) (h := 0) (by decide) (by decide)) (by decide) (by decide)), (r_w (l' := 0) (h' := 5) (r_n (x := (2 : Int32)) (l := 2) (h := 2) (by decide) (by decide)) (by decide) (by decide)), h_h_h_1, h_h_h_2_1, h_h_h_2_2⟩
              · skip
                have r21 : R32 (1) (2147483647) k3 := r_nlt1 (r_top _) (r_n (x := (1 : Int32)) (l := 1) (h := 1) (by decide) (by decide)) c19
                refine tp_nif (fun c22 => ?_) (fun c22 => ?_)
                · skip
                  refine tp_nl ?_
                  refine tp_nift (d_eq (r_n (x := (0 : Int32)) (l := 0) (h := 0) (by decide) (by decide)) (r_n (x := (0 : Int32)) (l := 0) (h := 0) (by decide) (by decide))) ?_
                  refine tp_nl ?_
                  refine tp_bu (f_X10_letTrouble_J22.eq_1 _ _ _ _) ?_
                  refine tp_biff (d_ne2 (r_n (x := (2 : Int32)) (l := 2) (h := 2) (by decide) (by decide)) (r_n (x := (0 : Int32)) (l := 0) (h := 0) (by decide) (by decide)) (by decide)) ?_
                  refine tp_bu (f_X10_letTrouble_J59.eq_1 _) ?_
                  refine tp_bs ?_
                  refine tp_e (f_X10_refused.eq_1 _ _) ?_
                  refine tp_niff (d_ne2 (r_n (x := (2 : Int32)) (l := 2) (h := 2) (by decide) (by decide)) (r_n (x := (0 : Int32)) (l := 0) (h := 0) (by decide) (by decide)) (by decide)) ?_
                  refine tp_nl ?_
                  refine tp_iff (d_ne2 (r_n (x := (1 : Int32)) (l := 1) (h := 1) (by decide) (by decide)) (r_n (x := (0 : Int32)) (l := 0) (h := 0) (by decide) (by decide)) (by decide)) ?_
                  exact tp_s ⟨(r_w (l' := 0) (h' := 1) (r_n (x := (0 : Int32)) (l := 0) (h := 0) (by decide) (by decide)) (by decide) (by decide)), (r_w (l' := 0) (h' := 5) (r_n (x := (2 : Int32)) (l := 2) (h := 2) (by decide) (by decide)) (by decide) (by decide)), h_h_h_1, h_h_h_2_1, h_h_h_2_2⟩
                · skip
                  have r23 : R32 (1) (9) p_p.2.1 := r_nlt1 h_p_p_2_1 r21 c22
                  have r24 : R32 (1) (9) k3 := r_nlt2 h_p_p_2_1 r21 c22
                  refine tp_nl ?_
                  refine tp_niff (d_ne2 (r_n (x := (1 : Int32)) (l := 1) (h := 1) (by decide) (by decide)) (r_n (x := (0 : Int32)) (l := 0) (h := 0) (by decide) (by decide)) (by decide)) ?_
                  refine tp_nl ?_
                  refine tp_bu (f_X10_letTrouble_J22.eq_1 _ _ _ _) ?_
                  refine tp_bift (d_eq (r_n (x := (0 : Int32)) (l := 0) (h := 0) (by decide) (by decide)) (r_n (x := (0 : Int32)) (l := 0) (h := 0) (by decide) (by decide))) ?_
                  refine tp_bg r6 (by decide) (by decide) ?_
                  refine tp_bif (fun c25 => ?_) (fun c25 => ?_)
                  · skip
                    have r26 : R32 (-1) (-1) (n2_n.2.2.2.2.2.2 (k1).toNatClampNeg) := r_eq1 (l := -1) (h := -1) (by decide) (by decide) (r_top _) (r_n (x := (-1 : Int32)) (l := -1) (h := -1) (by decide) (by decide)) c25
                    refine tp_bn ?_
                    refine tp_e (f_X6_isClose.eq_1 _ _) ?_
                    refine tp_nn ?_
                    refine tp_e (f_X10_within.eq_1 _ _ _) ?_
                    refine tp_nif (fun c27 => ?_) (fun c27 => ?_)
                    · skip
                      have r28 : R32 (-2147483648) (2147483646) n2_n.1 := r_lt1 (by decide) (r_top _) (r_top _) c27
                      have r29 : R32 (-2147483647) (2147483647) p_p.2.2.1 := r_lt2 (by decide) (r_top _) (r_top _) c27
                      refine tp_nl ?_
                      refine tp_nl ?_
                      refine tp_bift (d_eq (r_n (x := (0 : Int32)) (l := 0) (h := 0) (by decide) (by decide)) (r_n (x := (0 : Int32)) (l := 0) (h := 0) (by decide) (by decide))) ?_
                      refine tp_bu (f_X10_letTrouble_J59.eq_1 _) ?_
                      refine tp_bs ?_
                      refine tp_e (f_X10_refused.eq_1 _ _) ?_
                      refine tp_nift (d_eq (r_n (x := (0 : Int32)) (l := 0) (h := 0) (by decide) (by decide)) (r_n (x := (0 : Int32)) (l := 0) (h := 0) (by decide) (by decide))) ?_
                      refine tp_nl ?_
                      refine tp_ift (d_eq (r_n (x := (0 : Int32)) (l := 0) (h := 0) (by decide) (by decide)) (r_n (x := (0 : Int32)) (l := 0) (h := 0) (by decide) (by decide))) ?_
                      refine tp_b (t_f_X2_keep h_h_h_1 h_h_h_2_1 h_h_h_2_2) (fun o26 h30 => ?_)
                      obtain ⟨r31, r32, r33⟩ := h30
                      refine tp_e (f_X10_question.eq_1 _ _ _) ?_
                      refine tp_n (P := fun z => R32 (10) (793) z) (r_add (l := 10) (h := 793) (r_add (l := 10) (h := 790) (r_mul (l := 0) (h := 700) (r_n (x := (100 : Int32)) (l := 100) (h := 100) (by decide) (by decide)) r12 (by decide) (by decide) (by decide) (by decide) (by decide)) (r_mul (l := 10) (h := 90) (r_n (x := (10 : Int32)) (l := 10) (h := 10) (by decide) (by decide)) r24 (by decide) (by decide) (by decide) (by decide) (by decide)) (by decide) (by decide) (by decide) (by decide)) r18 (by decide) (by decide) (by decide) (by decide)) (fun o41 h34 => ?_)
                      refine tp_g r6 (by decide) (by decide) ?_
                      exact tp_s ⟨(r_w (l' := 0) (h' := 1) (r_n (x := (1 : Int32)) (l := 1) (h := 1) (by decide) (by decide)) (by decide) (by decide)), (r_w (l' := 0) (h' := 5) (r_n (x := (0 : Int32)) (l := 0) (h := 0) (by decide) (by decide)) (by decide) (by decide)), r31, (r_w (l' := 0) (h' := 16) r32 (by decide) (by decide)), r33⟩
                    · skip
                      refine tp_nif (fun c35 => ?_) (fun c35 => ?_)
                      · skip
                        have r36 : R32 (-2147483648) (2147483646) p_p.2.2.2.1 := r_lt1 (by decide) (r_top _) (r_top _) c35
                        have r37 : R32 (-2147483647) (2147483647) n2_n.1 := r_lt2 (by decide) (r_top _) (r_top _) c35
                        refine tp_nl ?_
                        refine tp_nl ?_
                        refine tp_bift (d_eq (r_n (x := (0 : Int32)) (l := 0) (h := 0) (by decide) (by decide)) (r_n (x := (0 : Int32)) (l := 0) (h := 0) (by decide) (by decide))) ?_
                        refine tp_bu (f_X10_letTrouble_J59.eq_1 _) ?_
                        refine tp_bs ?_
                        refine tp_e (f_X10_refused.eq_1 _ _) ?_
                        refine tp_nift (d_eq (r_n (x := (0 : Int32)) (l := 0) (h := 0) (by decide) (by decide)) (r_n (x := (0 : Int32)) (l := 0) (h := 0) (by decide) (by decide))) ?_
                        refine tp_nl ?_
                        refine tp_ift (d_eq (r_n (x := (0 : Int32)) (l := 0) (h := 0) (by decide) (by decide)) (r_n (x := (0 : Int32)) (l := 0) (h := 0) (by decide) (by decide))) ?_
                        refine tp_b (t_f_X2_keep h_h_h_1 h_h_h_2_1 h_h_h_2_2) (fun o26 h38 => ?_)
                        obtain ⟨r39, r40, r41⟩ := h38
                        refine tp_e (f_X10_question.eq_1 _ _ _) ?_
                        refine tp_n (P := fun z => R32 (10) (793) z) (r_add (l := 10) (h := 793) (r_add (l := 10) (h := 790) (r_mul (l := 0) (h := 700) (r_n (x := (100 : Int32)) (l := 100) (h := 100) (by decide) (by decide)) r12 (by decide) (by decide) (by decide) (by decide) (by decide)) (r_mul (l := 10) (h := 90) (r_n (x := (10 : Int32)) (l := 10) (h := 10) (by decide) (by decide)) r24 (by decide) (by decide) (by decide) (by decide) (by decide)) (by decide) (by decide) (by decide) (by decide)) r18 (by decide) (by decide) (by decide) (by decide)) (fun o41 h42 => ?_)
                        refine tp_g r6 (by decide) (by decide) ?_
                        exact tp_s ⟨(r_w (l' := 0) (h' := 1) (r_n (x := (1 : Int32)) (l := 1) (h := 1) (by decide) (by decide)) (by decide) (by decide)), (r_w (l' := 0) (h' := 5) (r_n (x := (0 : Int32)) (l := 0) (h := 0) (by decide) (by decide)) (by decide) (by decide)), r39, (r_w (l' := 0) (h' := 16) r40 (by decide) (by decide)), r41⟩
                      · skip
                        refine tp_nl ?_
                        refine tp_nl ?_
                        refine tp_biff (d_ne2 (r_n (x := (1 : Int32)) (l := 1) (h := 1) (by decide) (by decide)) (r_n (x := (0 : Int32)) (l := 0) (h := 0) (by decide) (by decide)) (by decide)) ?_
                        refine tp_bs ?_
                        refine tp_e (f_X10_refused.eq_1 _ _) ?_
                        refine tp_niff (d_ne2 (r_n (x := (5 : Int32)) (l := 5) (h := 5) (by decide) (by decide)) (r_n (x := (0 : Int32)) (l := 0) (h := 0) (by decide) (by decide)) (by decide)) ?_
                        refine tp_nl ?_
                        refine tp_iff (d_ne2 (r_n (x := (1 : Int32)) (l := 1) (h := 1) (by decide) (by decide)) (r_n (x := (0 : Int32)) (l := 0) (h := 0) (by decide) (by decide)) (by decide)) ?_
                        exact tp_s ⟨(r_w (l' := 0) (h' := 1) (r_n (x := (0 : Int32)) (l := 0) (h := 0) (by decide) (by decide)) (by decide) (by decide)), (r_w (l' := 0) (h' := 5) (r_n (x := (5 : Int32)) (l := 5) (h := 5) (by decide) (by decide)) (by decide) (by decide)), h_h_h_1, h_h_h_2_1, h_h_h_2_2⟩
                  · skip
                    refine tp_bs ?_
                    refine tp_e (f_X10_refused.eq_1 _ _) ?_
                    refine tp_niff (d_ne2 (r_n (x := (5 : Int32)) (l := 5) (h := 5) (by decide) (by decide)) (r_n (x := (0 : Int32)) (l := 0) (h := 0) (by decide) (by decide)) (by decide)) ?_
                    refine tp_nl ?_
                    refine tp_iff (d_ne2 (r_n (x := (1 : Int32)) (l := 1) (h := 1) (by decide) (by decide)) (r_n (x := (0 : Int32)) (l := 0) (h := 0) (by decide) (by decide)) (by decide)) ?_
                    exact tp_s ⟨(r_w (l' := 0) (h' := 1) (r_n (x := (0 : Int32)) (l := 0) (h := 0) (by decide) (by decide)) (by decide) (by decide)), (r_w (l' := 0) (h' := 5) (r_n (x := (5 : Int32)) (l := 5) (h := 5) (by decide) (by decide)) (by decide) (by decide)), h_h_h_1, h_h_h_2_1, h_h_h_2_2⟩
theorem t_f_X10_drawIn {k1 : Int32} {x_x : TX10_x} {n_n : TX4_n} {p_p : TX6_p} {n2_n : TX4_n} {h_h : TX2_h} (h_p_p_1 : R32 (0) (8) p_p.1) (h_p_p_2_1 : R32 (0) (9) p_p.2.1) (h_p_p_2_2_2_2_1 : R32 (0) (4) p_p.2.2.2.2.1) (h_p_p_2_2_2_2_2_1 : R32 (0) (5) p_p.2.2.2.2.2.1) (h_p_p_2_2_2_2_2_2_1 : R32 (0) (6) p_p.2.2.2.2.2.2.1) (h_p_p_2_2_2_2_2_2_2_1 : R32 (0) (6) p_p.2.2.2.2.2.2.2.1) (h_h_h_1 : R32 (0) (15) h_h.1) (h_h_h_2_1 : R32 (0) (16) h_h.2.1) (h_h_h_2_2 : R32 (0) (3) h_h.2.2) : TotP (f_X10_drawIn k1 x_x n_n p_p n2_n h_h) (fun (r : Int32 × TX10_x × TX4_n × TX4_n × TX2_h) => R32 (0) (1) r.1 ∧ R32 (0) (5) r.2.1.1 ∧ R32 (0) (15) r.2.2.2.2.1 ∧ R32 (0) (16) r.2.2.2.2.2.1 ∧ R32 (0) (3) r.2.2.2.2.2.2) := by
  unfold f_X10_drawIn
  refine tp_e (f_X10_askerTrouble.eq_1 _ _) ?_
  refine tp_nn ?_
  refine tp_e (f_X6_hasAsker.eq_1 _ _) ?_
  refine tp_nn ?_
  refine tp_e (f_X10_within.eq_1 _ _ _) ?_
  refine tp_nif (fun c1 => ?_) (fun c1 => ?_)
  · skip
    have r2 : R32 (-2147483648) (-1) k1 := r_lt1 (by decide) (r_top _) (r_n (x := (0 : Int32)) (l := 0) (h := 0) (by decide) (by decide)) c1
    refine tp_nl ?_
    refine tp_nl ?_
    refine tp_nift (d_eq (r_n (x := (0 : Int32)) (l := 0) (h := 0) (by decide) (by decide)) (r_n (x := (0 : Int32)) (l := 0) (h := 0) (by decide) (by decide))) ?_
    refine tp_nl ?_
    refine tp_iff (d_ne2 (r_n (x := (1 : Int32)) (l := 1) (h := 1) (by decide) (by decide)) (r_n (x := (0 : Int32)) (l := 0) (h := 0) (by decide) (by decide)) (by decide)) ?_
    refine tp_u (f_X10_drawIn_J28.eq_1 _ _ _ _ _ _) ?_
    refine tp_u (f_X10_drawIn_J29.eq_1 _ _ _ _ _ _) ?_
    refine tp_e (f_X10_refused.eq_1 _ _) ?_
    refine tp_niff (d_ne2 (r_n (x := (1 : Int32)) (l := 1) (h := 1) (by decide) (by decide)) (r_n (x := (0 : Int32)) (l := 0) (h := 0) (by decide) (by decide)) (by decide)) ?_
    refine tp_nl ?_
    refine tp_iff (d_ne2 (r_n (x := (1 : Int32)) (l := 1) (h := 1) (by decide) (by decide)) (r_n (x := (0 : Int32)) (l := 0) (h := 0) (by decide) (by decide)) (by decide)) ?_
    exact tp_s ⟨(r_w (l' := 0) (h' := 1) (r_n (x := (0 : Int32)) (l := 0) (h := 0) (by decide) (by decide)) (by decide) (by decide)), (r_w (l' := 0) (h' := 5) (r_n (x := (1 : Int32)) (l := 1) (h := 1) (by decide) (by decide)) (by decide) (by decide)), h_h_h_1, h_h_h_2_1, h_h_h_2_2⟩
  · skip
    have r3 : R32 (0) (2147483647) k1 := r_nlt1 (r_top _) (r_n (x := (0 : Int32)) (l := 0) (h := 0) (by decide) (by decide)) c1
    refine tp_nif (fun c4 => ?_) (fun c4 => ?_)
    · skip
      refine tp_nl ?_
      refine tp_nl ?_
      refine tp_nift (d_eq (r_n (x := (0 : Int32)) (l := 0) (h := 0) (by decide) (by decide)) (r_n (x := (0 : Int32)) (l := 0) (h := 0) (by decide) (by decide))) ?_
      refine tp_nl ?_
      refine tp_iff (d_ne2 (r_n (x := (1 : Int32)) (l := 1) (h := 1) (by decide) (by decide)) (r_n (x := (0 : Int32)) (l := 0) (h := 0) (by decide) (by decide)) (by decide)) ?_
      refine tp_u (f_X10_drawIn_J28.eq_1 _ _ _ _ _ _) ?_
      refine tp_u (f_X10_drawIn_J29.eq_1 _ _ _ _ _ _) ?_
      refine tp_e (f_X10_refused.eq_1 _ _) ?_
      refine tp_niff (d_ne2 (r_n (x := (1 : Int32)) (l := 1) (h := 1) (by decide) (by decide)) (r_n (x := (0 : Int32)) (l := 0) (h := 0) (by decide) (by decide)) (by decide)) ?_
      refine tp_nl ?_
      refine tp_iff (d_ne2 (r_n (x := (1 : Int32)) (l := 1) (h := 1) (by decide) (by decide)) (r_n (x := (0 : Int32)) (l := 0) (h := 0) (by decide) (by decide)) (by decide)) ?_
      exact tp_s ⟨(r_w (l' := 0) (h' := 1) (r_n (x := (0 : Int32)) (l := 0) (h := 0) (by decide) (by decide)) (by decide) (by decide)), (r_w (l' := 0) (h' := 5) (r_n (x := (1 : Int32)) (l := 1) (h := 1) (by decide) (by decide)) (by decide) (by decide)), h_h_h_1, h_h_h_2_1, h_h_h_2_2⟩
    · skip
      have r5 : R32 (0) (4) (p_p.2.2.2.2.2.1 - (1 : Int32)) := r_nlt1 (r_sub (l := -1) (h := 4) h_p_p_2_2_2_2_2_1 (r_n (x := (1 : Int32)) (l := 1) (h := 1) (by decide) (by decide)) (by decide) (by decide) (by decide) (by decide)) r3 c4
      have r6 : R32 (0) (4) k1 := r_nlt2 (r_sub (l := -1) (h := 4) h_p_p_2_2_2_2_2_1 (r_n (x := (1 : Int32)) (l := 1) (h := 1) (by decide) (by decide)) (by decide) (by decide) (by decide) (by decide)) r3 c4
      refine tp_nl ?_
      refine tp_nl ?_
      refine tp_niff (d_ne2 (r_n (x := (1 : Int32)) (l := 1) (h := 1) (by decide) (by decide)) (r_n (x := (0 : Int32)) (l := 0) (h := 0) (by decide) (by decide)) (by decide)) ?_
      refine tp_nl ?_
      refine tp_ift (d_eq (r_n (x := (0 : Int32)) (l := 0) (h := 0) (by decide) (by decide)) (r_n (x := (0 : Int32)) (l := 0) (h := 0) (by decide) (by decide))) ?_
      refine tp_g r6 (by decide) (by decide) ?_
      refine tp_if (fun c7 => ?_) (fun c7 => ?_)
      · skip
        have r8 : R32 (-1) (-1) (n2_n.2.2.2.2.2.2 (k1).toNatClampNeg) := r_eq1 (l := -1) (h := -1) (by decide) (by decide) (r_top _) (r_n (x := (-1 : Int32)) (l := -1) (h := -1) (by decide) (by decide)) c7
        refine tp_u (f_X10_drawIn_J29.eq_1 _ _ _ _ _ _) ?_
        refine tp_e (f_X10_refused.eq_1 _ _) ?_
        refine tp_niff (d_ne2 (r_n (x := (5 : Int32)) (l := 5) (h := 5) (by decide) (by decide)) (r_n (x := (0 : Int32)) (l := 0) (h := 0) (by decide) (by decide)) (by decide)) ?_
        refine tp_nl ?_
        refine tp_iff (d_ne2 (r_n (x := (1 : Int32)) (l := 1) (h := 1) (by decide) (by decide)) (r_n (x := (0 : Int32)) (l := 0) (h := 0) (by decide) (by decide)) (by decide)) ?_
        exact tp_s ⟨(r_w (l' := 0) (h' := 1) (r_n (x := (0 : Int32)) (l := 0) (h := 0) (by decide) (by decide)) (by decide) (by decide)), (r_w (l' := 0) (h' := 5) (r_n (x := (5 : Int32)) (l := 5) (h := 5) (by decide) (by decide)) (by decide) (by decide)), h_h_h_1, h_h_h_2_1, h_h_h_2_2⟩
      · skip
        refine tp_u (f_X10_drawIn_J28.eq_1 _ _ _ _ _ _) ?_
        refine tp_u (f_X10_drawIn_J29.eq_1 _ _ _ _ _ _) ?_
        refine tp_e (f_X10_refused.eq_1 _ _) ?_
        refine tp_nift (d_eq (r_n (x := (0 : Int32)) (l := 0) (h := 0) (by decide) (by decide)) (r_n (x := (0 : Int32)) (l := 0) (h := 0) (by decide) (by decide))) ?_
        refine tp_nl ?_
        refine tp_ift (d_eq (r_n (x := (0 : Int32)) (l := 0) (h := 0) (by decide) (by decide)) (r_n (x := (0 : Int32)) (l := 0) (h := 0) (by decide) (by decide))) ?_
        refine tp_b (t_f_X2_keep h_h_h_1 h_h_h_2_1 h_h_h_2_2) (fun o45 h9 => ?_)
        obtain ⟨r10, r11, r12⟩ := h9
        refine tp_g r6 (by decide) (by decide) ?_
        exact tp_s ⟨(r_w (l' := 0) (h' := 1) (r_n (x := (1 : Int32)) (l := 1) (h := 1) (by decide) (by decide)) (by decide) (by decide)), (r_w (l' := 0) (h' := 5) (r_n (x := (0 : Int32)) (l := 0) (h := 0) (by decide) (by decide)) (by decide) (by decide)), r10, (r_w (l' := 0) (h' := 16) r11 (by decide) (by decide)), r12⟩
theorem t_f_X6_worthAfter {k1 : Int32} {k2 : Int32} {p_p : TX6_p} (h_k1 : R32 (0) (5) k1) (h_p_p_1 : R32 (0) (8) p_p.1) (h_p_p_2_1 : R32 (0) (9) p_p.2.1) (h_p_p_2_2_2_2_1 : R32 (0) (4) p_p.2.2.2.2.1) (h_p_p_2_2_2_2_2_1 : R32 (0) (5) p_p.2.2.2.2.2.1) (h_p_p_2_2_2_2_2_2_1 : R32 (0) (6) p_p.2.2.2.2.2.2.1) (h_p_p_2_2_2_2_2_2_2_1 : R32 (0) (6) p_p.2.2.2.2.2.2.2.1) : TotP (f_X6_worthAfter k1 k2 p_p) (fun (r : Int32) => True) := by
  unfold f_X6_worthAfter
  refine tp_g h_k1 (by decide) (by decide) ?_
  refine tp_if (fun c1 => ?_) (fun c1 => ?_)
  · skip
    have r2 : R32 (1) (1) (p_p.2.2.2.2.2.2.2.2.2.2.1 (k1).toNatClampNeg) := r_eq1 (l := 1) (h := 1) (by decide) (by decide) (r_top _) (r_n (x := (1 : Int32)) (l := 1) (h := 1) (by decide) (by decide)) c1
    refine tp_g h_k1 (by decide) (by decide) ?_
    exact tp_s trivial
  · skip
    refine tp_g h_k1 (by decide) (by decide) ?_
    refine tp_if (fun c3 => ?_) (fun c3 => ?_)
    · skip
      have r4 : R32 (3) (3) (p_p.2.2.2.2.2.2.2.2.2.2.1 (k1).toNatClampNeg) := r_eq1 (l := 3) (h := 3) (by decide) (by decide) (r_top _) (r_n (x := (3 : Int32)) (l := 3) (h := 3) (by decide) (by decide)) c3
      refine tp_g h_k1 (by decide) (by decide) ?_
      refine tp_n0 (fun z36 => ?_)
      refine tp_n0 (fun z37 => ?_)
      exact tp_s trivial
    · skip
      refine tp_g h_k1 (by decide) (by decide) ?_
      refine tp_n0 (fun z51 => ?_)
      refine tp_n0 (fun z52 => ?_)
      exact tp_s trivial
theorem t_f_X3_worthOn {k2 : Int32} {k3 : Int32} {p_p : TX6_p} {n_n : TX4_n} (h_k2 : R32 (0) (5) k2) (h_p_p_1 : R32 (0) (8) p_p.1) (h_p_p_2_1 : R32 (0) (9) p_p.2.1) (h_p_p_2_2_2_2_1 : R32 (0) (4) p_p.2.2.2.2.1) (h_p_p_2_2_2_2_2_1 : R32 (0) (5) p_p.2.2.2.2.2.1) (h_p_p_2_2_2_2_2_2_1 : R32 (0) (6) p_p.2.2.2.2.2.2.1) (h_p_p_2_2_2_2_2_2_2_1 : R32 (0) (6) p_p.2.2.2.2.2.2.2.1) : TotP (f_X3_worthOn k2 k3 p_p n_n) (fun (r : Int32) => True) := by
  unfold f_X3_worthOn
  refine tp_g h_k2 (by decide) (by decide) ?_
  refine tp_b (t_f_X6_worthAfter h_k2 h_p_p_1 h_p_p_2_1 h_p_p_2_2_2_2_1 h_p_p_2_2_2_2_2_1 h_p_p_2_2_2_2_2_2_1 h_p_p_2_2_2_2_2_2_2_1) (fun o10 h1 => ?_)
  exact tp_s trivial
theorem t_f_X10_sell {k1 : Int32} {x_x : TX10_x} {n_n : TX4_n} {p_p : TX6_p} {n2_n : TX4_n} {h_h : TX2_h} (h_p_p_1 : R32 (0) (8) p_p.1) (h_p_p_2_1 : R32 (0) (9) p_p.2.1) (h_p_p_2_2_2_2_1 : R32 (0) (4) p_p.2.2.2.2.1) (h_p_p_2_2_2_2_2_1 : R32 (0) (5) p_p.2.2.2.2.2.1) (h_p_p_2_2_2_2_2_2_1 : R32 (0) (6) p_p.2.2.2.2.2.2.1) (h_p_p_2_2_2_2_2_2_2_1 : R32 (0) (6) p_p.2.2.2.2.2.2.2.1) (h_h_h_1 : R32 (0) (15) h_h.1) (h_h_h_2_1 : R32 (0) (16) h_h.2.1) (h_h_h_2_2 : R32 (0) (3) h_h.2.2) : TotP (f_X10_sell k1 x_x n_n p_p n2_n h_h) (fun (r : Int32 × TX10_x × TX4_n × TX4_n × TX2_h) => R32 (0) (5) r.2.1.1 ∧ R32 (0) (15) r.2.2.2.2.1 ∧ R32 (0) (16) r.2.2.2.2.2.1 ∧ R32 (0) (3) r.2.2.2.2.2.2) := by
  unfold f_X10_sell
  refine tp_e (f_X10_answerTrouble.eq_1 _ _) ?_
  refine tp_nn ?_
  refine tp_e (f_X6_hasAnswer.eq_1 _ _) ?_
  refine tp_nn ?_
  refine tp_e (f_X10_within.eq_1 _ _ _) ?_
  refine tp_nif (fun c1 => ?_) (fun c1 => ?_)
  · skip
    have r2 : R32 (-2147483648) (-1) k1 := r_lt1 (by decide) (r_top _) (r_n (x := (0 : Int32)) (l := 0) (h := 0) (by decide) (by decide)) c1
    refine tp_nl ?_
    refine tp_nl ?_
    refine tp_nift (d_eq (r_n (x := (0 : Int32)) (l := 0) (h := 0) (by decide) (by decide)) (r_n (x := (0 : Int32)) (l := 0) (h := 0) (by decide) (by decide))) ?_
    refine tp_nl ?_
    refine tp_iff (d_ne2 (r_n (x := (1 : Int32)) (l := 1) (h := 1) (by decide) (by decide)) (r_n (x := (0 : Int32)) (l := 0) (h := 0) (by decide) (by decide)) (by decide)) ?_
    refine tp_u (f_X10_sell_J28.eq_1 _ _ _ _ _ _ _) ?_
    refine tp_u (f_X10_sell_J29.eq_1 _ _ _ _ _ _ _) ?_
    refine tp_e (f_X10_refused.eq_1 _ _) ?_
    refine tp_niff (d_ne2 (r_n (x := (1 : Int32)) (l := 1) (h := 1) (by decide) (by decide)) (r_n (x := (0 : Int32)) (l := 0) (h := 0) (by decide) (by decide)) (by decide)) ?_
    refine tp_nl ?_
    refine tp_iff (d_ne2 (r_n (x := (1 : Int32)) (l := 1) (h := 1) (by decide) (by decide)) (r_n (x := (0 : Int32)) (l := 0) (h := 0) (by decide) (by decide)) (by decide)) ?_
    exact tp_s ⟨(r_w (l' := 0) (h' := 5) (r_n (x := (1 : Int32)) (l := 1) (h := 1) (by decide) (by decide)) (by decide) (by decide)), h_h_h_1, h_h_h_2_1, h_h_h_2_2⟩
  · skip
    have r3 : R32 (0) (2147483647) k1 := r_nlt1 (r_top _) (r_n (x := (0 : Int32)) (l := 0) (h := 0) (by decide) (by decide)) c1
    refine tp_nif (fun c4 => ?_) (fun c4 => ?_)
    · skip
      refine tp_nl ?_
      refine tp_nl ?_
      refine tp_nift (d_eq (r_n (x := (0 : Int32)) (l := 0) (h := 0) (by decide) (by decide)) (r_n (x := (0 : Int32)) (l := 0) (h := 0) (by decide) (by decide))) ?_
      refine tp_nl ?_
      refine tp_iff (d_ne2 (r_n (x := (1 : Int32)) (l := 1) (h := 1) (by decide) (by decide)) (r_n (x := (0 : Int32)) (l := 0) (h := 0) (by decide) (by decide)) (by decide)) ?_
      refine tp_u (f_X10_sell_J28.eq_1 _ _ _ _ _ _ _) ?_
      refine tp_u (f_X10_sell_J29.eq_1 _ _ _ _ _ _ _) ?_
      refine tp_e (f_X10_refused.eq_1 _ _) ?_
      refine tp_niff (d_ne2 (r_n (x := (1 : Int32)) (l := 1) (h := 1) (by decide) (by decide)) (r_n (x := (0 : Int32)) (l := 0) (h := 0) (by decide) (by decide)) (by decide)) ?_
      refine tp_nl ?_
      refine tp_iff (d_ne2 (r_n (x := (1 : Int32)) (l := 1) (h := 1) (by decide) (by decide)) (r_n (x := (0 : Int32)) (l := 0) (h := 0) (by decide) (by decide)) (by decide)) ?_
      exact tp_s ⟨(r_w (l' := 0) (h' := 5) (r_n (x := (1 : Int32)) (l := 1) (h := 1) (by decide) (by decide)) (by decide) (by decide)), h_h_h_1, h_h_h_2_1, h_h_h_2_2⟩
    · skip
      have r5 : R32 (0) (5) (p_p.2.2.2.2.2.2.1 - (1 : Int32)) := r_nlt1 (r_sub (l := -1) (h := 5) h_p_p_2_2_2_2_2_2_1 (r_n (x := (1 : Int32)) (l := 1) (h := 1) (by decide) (by decide)) (by decide) (by decide) (by decide) (by decide)) r3 c4
      have r6 : R32 (0) (5) k1 := r_nlt2 (r_sub (l := -1) (h := 5) h_p_p_2_2_2_2_2_2_1 (r_n (x := (1 : Int32)) (l := 1) (h := 1) (by decide) (by decide)) (by decide) (by decide) (by decide) (by decide)) r3 c4
      refine tp_nl ?_
      refine tp_nl ?_
      refine tp_niff (d_ne2 (r_n (x := (1 : Int32)) (l := 1) (h := 1) (by decide) (by decide)) (r_n (x := (0 : Int32)) (l := 0) (h := 0) (by decide) (by decide)) (by decide)) ?_
      refine tp_nl ?_
      refine tp_ift (d_eq (r_n (x := (0 : Int32)) (l := 0) (h := 0) (by decide) (by decide)) (r_n (x := (0 : Int32)) (l := 0) (h := 0) (by decide) (by decide))) ?_
      refine tp_g r6 (by decide) (by decide) ?_
      refine tp_if (fun c7 => ?_) (fun c7 => ?_)
      · skip
        have r8 : R32 (1) (1) (n2_n.2.2.2.1 (k1).toNatClampNeg) := r_eq1 (l := 1) (h := 1) (by decide) (by decide) (r_top _) (r_n (x := (1 : Int32)) (l := 1) (h := 1) (by decide) (by decide)) c7
        refine tp_u (f_X10_sell_J28.eq_1 _ _ _ _ _ _ _) ?_
        refine tp_u (f_X10_sell_J29.eq_1 _ _ _ _ _ _ _) ?_
        refine tp_e (f_X10_refused.eq_1 _ _) ?_
        refine tp_nift (d_eq (r_n (x := (0 : Int32)) (l := 0) (h := 0) (by decide) (by decide)) (r_n (x := (0 : Int32)) (l := 0) (h := 0) (by decide) (by decide))) ?_
        refine tp_nl ?_
        refine tp_ift (d_eq (r_n (x := (0 : Int32)) (l := 0) (h := 0) (by decide) (by decide)) (r_n (x := (0 : Int32)) (l := 0) (h := 0) (by decide) (by decide))) ?_
        refine tp_b (t_f_X2_keep h_h_h_1 h_h_h_2_1 h_h_h_2_2) (fun o45 h9 => ?_)
        obtain ⟨r10, r11, r12⟩ := h9
        refine tp_b (t_f_X3_worthOn r6 h_p_p_1 h_p_p_2_1 h_p_p_2_2_2_2_1 h_p_p_2_2_2_2_2_1 h_p_p_2_2_2_2_2_2_1 h_p_p_2_2_2_2_2_2_2_1) (fun o64 h13 => ?_)
        refine tp_g r6 (by decide) (by decide) ?_
        exact tp_s ⟨(r_w (l' := 0) (h' := 5) (r_n (x := (0 : Int32)) (l := 0) (h := 0) (by decide) (by decide)) (by decide) (by decide)), r10, (r_w (l' := 0) (h' := 16) r11 (by decide) (by decide)), r12⟩
      · skip
        refine tp_u (f_X10_sell_J29.eq_1 _ _ _ _ _ _ _) ?_
        refine tp_e (f_X10_refused.eq_1 _ _) ?_
        refine tp_niff (d_ne2 (r_n (x := (5 : Int32)) (l := 5) (h := 5) (by decide) (by decide)) (r_n (x := (0 : Int32)) (l := 0) (h := 0) (by decide) (by decide)) (by decide)) ?_
        refine tp_nl ?_
        refine tp_iff (d_ne2 (r_n (x := (1 : Int32)) (l := 1) (h := 1) (by decide) (by decide)) (r_n (x := (0 : Int32)) (l := 0) (h := 0) (by decide) (by decide)) (by decide)) ?_
        exact tp_s ⟨(r_w (l' := 0) (h' := 5) (r_n (x := (5 : Int32)) (l := 5) (h := 5) (by decide) (by decide)) (by decide) (by decide)), h_h_h_1, h_h_h_2_1, h_h_h_2_2⟩
theorem t_f_X6_isTangle {k1 : Int32} {k2 : Int32} {k3 : Int32} {k4 : Int32} {p_p : TX6_p} (h_k1 : R32 (0) (4) k1) (h_k3 : R32 (0) (4) k3) (h_p_p_1 : R32 (0) (8) p_p.1) (h_p_p_2_1 : R32 (0) (9) p_p.2.1) (h_p_p_2_2_2_2_1 : R32 (0) (4) p_p.2.2.2.2.1) (h_p_p_2_2_2_2_2_1 : R32 (0) (5) p_p.2.2.2.2.2.1) (h_p_p_2_2_2_2_2_2_1 : R32 (0) (6) p_p.2.2.2.2.2.2.1) (h_p_p_2_2_2_2_2_2_2_1 : R32 (0) (6) p_p.2.2.2.2.2.2.2.1) : TotP (f_X6_isTangle k1 k2 k3 k4 p_p) (fun (r : Int32) => R32 (0) (1) r) := by
  unfold f_X6_isTangle
  refine tp_n0 (fun z4 => ?_)
  refine tp_g h_k1 (by decide) (by decide) ?_
  refine tp_g h_k3 (by decide) (by decide) ?_
  refine tp_n0 (fun z19 => ?_)
  refine tp_if (fun c1 => ?_) (fun c1 => ?_)
  · skip
    have r2 : R32 (-2147483648) (2147483646) z19 := r_lt1 (by decide) (r_top _) (r_top _) c1
    have r3 : R32 (-2147483647) (2147483647) z4 := r_lt2 (by decide) (r_top _) (r_top _) c1
    exact tp_s (r_w (l' := 0) (h' := 1) (r_n (x := (0 : Int32)) (l := 0) (h := 0) (by decide) (by decide)) (by decide) (by decide))
  · skip
    exact tp_s (r_w (l' := 0) (h' := 1) (r_n (x := (1 : Int32)) (l := 1) (h := 1) (by decide) (by decide)) (by decide) (by decide))
theorem t_f_X4_isTangled_J52 {k3_ : Int32 → Option Int32} {v3_l4 : Int32} {N3 : Nat} (hk3 : ∀ (v3_l4 : Int32), R32 (0) (5) v3_l4 → (5 : Int) - v3_l4.toInt < (N3 : Nat) → TotP (k3_ v3_l4) (fun (r : Int32) => R32 (0) (1) r)) (hm3 : (5 : Int) - v3_l4.toInt < ((N3 + 1 : Nat) : Int)) (h_v3_l4 : R32 (0) (4) v3_l4) : TotP (f_X4_isTangled_J52 k3_ v3_l4) (fun (r : Int32) => R32 (0) (1) r) := by
  unfold f_X4_isTangled_J52
  exact hk3 _ (r_w (l' := 0) (h' := 5) (r_add (l := 1) (h := 5) h_v3_l4 (r_n (x := (1 : Int32)) (l := 1) (h := 1) (by decide) (by decide)) (by decide) (by decide) (by decide) (by decide)) (by decide) (by decide)) (ms_up (y := (1 : Int32)) h_v3_l4 (by decide) (by decide) (by decide) hm3)
theorem t_f_X4_isTangled_L3 {k2 : Int32} {k3 : Int32} {n_n : TX4_n} {p_p : TX6_p} (h_k2 : R32 (0) (4) k2) (h_p_p_1 : R32 (0) (8) p_p.1) (h_p_p_2_1 : R32 (0) (9) p_p.2.1) (h_p_p_2_2_2_2_1 : R32 (0) (4) p_p.2.2.2.2.1) (h_p_p_2_2_2_2_2_1 : R32 (0) (5) p_p.2.2.2.2.2.1) (h_p_p_2_2_2_2_2_2_1 : R32 (0) (6) p_p.2.2.2.2.2.2.1) (h_p_p_2_2_2_2_2_2_2_1 : R32 (0) (6) p_p.2.2.2.2.2.2.2.1) : ∀ (n : Nat) (v3_l4 : Int32), R32 (0) (5) v3_l4 → (5 : Int) - v3_l4.toInt < (n : Int) → TotP (f_X4_isTangled_L3 k2 k3 n_n p_p n v3_l4) (fun (r : Int32) => R32 (0) (1) r) := by
  intro n
  induction n with
  | zero =>
    intro v3_l4 h_v3_l4 hm
    exact (ms_0u h_v3_l4 hm).elim
  | succ n ih =>
    intro v3_l4 h_v3_l4 hm
    rw [f_X4_isTangled_L3]
    refine tp_if (fun c1 => ?_) (fun c1 => ?_)
    · skip
      exact tp_s (r_w (l' := 0) (h' := 1) (r_n (x := (0 : Int32)) (l := 0) (h := 0) (by decide) (by decide)) (by decide) (by decide))
    · skip
      have r2 : R32 (1) (5) p_p.2.2.2.2.2.1 := r_nle1 (by decide) h_p_p_2_2_2_2_2_1 h_v3_l4 c1
      have r3 : R32 (0) (4) v3_l4 := r_nle2 (by decide) h_p_p_2_2_2_2_2_1 h_v3_l4 c1
      refine tp_if (fun c4 => ?_) (fun c4 => ?_)
      · skip
        exact t_f_X4_isTangled_J52 ih hm r3
      · skip
        refine tp_g r3 (by decide) (by decide) ?_
        refine tp_if (fun c5 => ?_) (fun c5 => ?_)
        · skip
          have r6 : R32 (-1) (-1) (n_n.2.2.2.2.2.2 (v3_l4).toNatClampNeg) := r_eq1 (l := -1) (h := -1) (by decide) (by decide) (r_top _) (r_n (x := (-1 : Int32)) (l := -1) (h := -1) (by decide) (by decide)) c5
          exact t_f_X4_isTangled_J52 ih hm r3
        · skip
          refine tp_g r3 (by decide) (by decide) ?_
          refine tp_e (f_X10_spotOf.eq_1 _) ?_
          refine tp_n0 (fun o41 => ?_)
          refine tp_b (t_f_X6_isTangle h_k2 r3 h_p_p_1 h_p_p_2_1 h_p_p_2_2_2_2_1 (r_w (l' := 0) (h' := 5) r2 (by decide) (by decide)) h_p_p_2_2_2_2_2_2_1 h_p_p_2_2_2_2_2_2_2_1) (fun o44 h7 => ?_)
          refine tp_if (fun c8 => ?_) (fun c8 => ?_)
          · skip
            have r9 : R32 (0) (0) o44 := r_eq1 (l := 0) (h := 0) (by decide) (by decide) h7 (r_n (x := (0 : Int32)) (l := 0) (h := 0) (by decide) (by decide)) c8
            exact t_f_X4_isTangled_J52 ih hm r3
          · skip
            have r10 : R32 (1) (1) o44 := r_neL (by decide) h7 (r_n (x := (0 : Int32)) (l := 0) (h := 0) (by decide) (by decide)) c8
            exact tp_s (r_w (l' := 0) (h' := 1) (r_n (x := (1 : Int32)) (l := 1) (h := 1) (by decide) (by decide)) (by decide) (by decide))
theorem t_f_X4_isTangled {k2 : Int32} {k3 : Int32} {n_n : TX4_n} {p_p : TX6_p} (h_k2 : R32 (0) (4) k2) (h_p_p_1 : R32 (0) (8) p_p.1) (h_p_p_2_1 : R32 (0) (9) p_p.2.1) (h_p_p_2_2_2_2_1 : R32 (0) (4) p_p.2.2.2.2.1) (h_p_p_2_2_2_2_2_1 : R32 (0) (5) p_p.2.2.2.2.2.1) (h_p_p_2_2_2_2_2_2_1 : R32 (0) (6) p_p.2.2.2.2.2.2.1) (h_p_p_2_2_2_2_2_2_2_1 : R32 (0) (6) p_p.2.2.2.2.2.2.2.1) : TotP (f_X4_isTangled k2 k3 n_n p_p) (fun (r : Int32) => R32 (0) (1) r) := by
  unfold f_X4_isTangled
  exact t_f_X4_isTangled_L3 h_k2 h_p_p_1 h_p_p_2_1 h_p_p_2_2_2_2_1 h_p_p_2_2_2_2_2_1 h_p_p_2_2_2_2_2_2_1 h_p_p_2_2_2_2_2_2_2_1 FU _ (r_w (l' := 0) (h' := 5) (r_n (x := (0 : Int32)) (l := 0) (h := 0) (by decide) (by decide)) (by decide) (by decide)) (fu_up (r_w (l' := 0) (h' := 5) (r_n (x := (0 : Int32)) (l := 0) (h := 0) (by decide) (by decide)) (by decide) (by decide)) (by decide))
theorem t_f_X1_untangled_J46 {k4_ : Int32 → Int32 → Option Int32} {v4_l3 : Int32} {v46_l2 : Int32} {N4 : Nat} (hk4 : ∀ (v4_l3 : Int32) (v4_l2 : Int32), R32 (0) (5) v4_l3 → R32 (0) (31) v4_l2 → (5 : Int) - v4_l3.toInt < (N4 : Nat) → TotP (k4_ v4_l3 v4_l2) (fun (r : Int32) => R32 (0) (31) r)) (hm4 : (5 : Int) - v4_l3.toInt < ((N4 + 1 : Nat) : Int)) (h_v4_l3 : R32 (0) (4) v4_l3) (h_v46_l2 : R32 (0) (31) v46_l2) : TotP (f_X1_untangled_J46 k4_ v4_l3 v46_l2) (fun (r : Int32) => R32 (0) (31) r) := by
  unfold f_X1_untangled_J46
  exact hk4 _ _ (r_w (l' := 0) (h' := 5) (r_add (l := 1) (h := 5) h_v4_l3 (r_n (x := (1 : Int32)) (l := 1) (h := 1) (by decide) (by decide)) (by decide) (by decide) (by decide) (by decide)) (by decide) (by decide)) h_v46_l2 (ms_up (y := (1 : Int32)) h_v4_l3 (by decide) (by decide) (by decide) hm4)
theorem t_f_X1_untangled_L4 {p_p : TX6_p} {n_n : TX4_n} (h_p_p_1 : R32 (1) (8) p_p.1) (h_p_p_2_1 : R32 (0) (9) p_p.2.1) (h_p_p_2_2_2_2_1 : R32 (0) (4) p_p.2.2.2.2.1) (h_p_p_2_2_2_2_2_1 : R32 (0) (5) p_p.2.2.2.2.2.1) (h_p_p_2_2_2_2_2_2_1 : R32 (0) (6) p_p.2.2.2.2.2.2.1) (h_p_p_2_2_2_2_2_2_2_1 : R32 (0) (6) p_p.2.2.2.2.2.2.2.1) : ∀ (n : Nat) (v4_l3 : Int32) (v4_l2 : Int32), R32 (0) (5) v4_l3 → R32 (0) (31) v4_l2 → (5 : Int) - v4_l3.toInt < (n : Int) → TotP (f_X1_untangled_L4 p_p n_n n v4_l3 v4_l2) (fun (r : Int32) => R32 (0) (31) r) := by
  intro n
  induction n with
  | zero =>
    intro v4_l3 v4_l2 h_v4_l3 h_v4_l2 hm
    exact (ms_0u h_v4_l3 hm).elim
  | succ n ih =>
    intro v4_l3 v4_l2 h_v4_l3 h_v4_l2 hm
    rw [f_X1_untangled_L4]
    refine tp_if (fun c1 => ?_) (fun c1 => ?_)
    · skip
      exact tp_s h_v4_l2
    · skip
      have r2 : R32 (1) (5) p_p.2.2.2.2.2.1 := r_nle1 (by decide) h_p_p_2_2_2_2_2_1 h_v4_l3 c1
      have r3 : R32 (0) (4) v4_l3 := r_nle2 (by decide) h_p_p_2_2_2_2_2_1 h_v4_l3 c1
      refine tp_g r3 (by decide) (by decide) ?_
      refine tp_if (fun c4 => ?_) (fun c4 => ?_)
      · skip
        have r5 : R32 (-1) (-1) (n_n.2.2.2.2.2.2 (v4_l3).toNatClampNeg) := r_eq1 (l := -1) (h := -1) (by decide) (by decide) (r_top _) (r_n (x := (-1 : Int32)) (l := -1) (h := -1) (by decide) (by decide)) c4
        exact t_f_X1_untangled_J46 ih hm r3 h_v4_l2
      · skip
        refine tp_g r3 (by decide) (by decide) ?_
        refine tp_e (f_X10_spotOf.eq_1 _) ?_
        refine tp_n0 (fun o31 => ?_)
        refine tp_b (t_f_X4_isTangled r3 (r_w (l' := 0) (h' := 8) h_p_p_1 (by decide) (by decide)) h_p_p_2_1 h_p_p_2_2_2_2_1 (r_w (l' := 0) (h' := 5) r2 (by decide) (by decide)) h_p_p_2_2_2_2_2_2_1 h_p_p_2_2_2_2_2_2_2_1) (fun o34 h6 => ?_)
        refine tp_if (fun c7 => ?_) (fun c7 => ?_)
        · skip
          have r8 : R32 (0) (0) o34 := r_eq1 (l := 0) (h := 0) (by decide) (by decide) h6 (r_n (x := (0 : Int32)) (l := 0) (h := 0) (by decide) (by decide)) c7
          exact t_f_X1_untangled_J46 ih hm r3 (r_or 5 31 h_v4_l2 (r_shl 0 4 (l := 1) (h := 16) r3 (by decide) (by decide) (by decide)) (by decide) (by decide) (by decide) (by decide) (by decide))
        · skip
          have r9 : R32 (1) (1) o34 := r_neL (by decide) h6 (r_n (x := (0 : Int32)) (l := 0) (h := 0) (by decide) (by decide)) c7
          exact t_f_X1_untangled_J46 ih hm r3 h_v4_l2
theorem t_f_X1_untangled {p_p : TX6_p} {n_n : TX4_n} (h_p_p_1 : R32 (1) (8) p_p.1) (h_p_p_2_1 : R32 (0) (9) p_p.2.1) (h_p_p_2_2_2_2_1 : R32 (0) (4) p_p.2.2.2.2.1) (h_p_p_2_2_2_2_2_1 : R32 (0) (5) p_p.2.2.2.2.2.1) (h_p_p_2_2_2_2_2_2_1 : R32 (0) (6) p_p.2.2.2.2.2.2.1) (h_p_p_2_2_2_2_2_2_2_1 : R32 (0) (6) p_p.2.2.2.2.2.2.2.1) : TotP (f_X1_untangled p_p n_n) (fun (r : Int32) => R32 (0) (31) r) := by
  unfold f_X1_untangled
  exact t_f_X1_untangled_L4 h_p_p_1 h_p_p_2_1 h_p_p_2_2_2_2_1 h_p_p_2_2_2_2_2_1 h_p_p_2_2_2_2_2_2_1 h_p_p_2_2_2_2_2_2_2_1 FU _ _ (r_w (l' := 0) (h' := 5) (r_n (x := (0 : Int32)) (l := 0) (h := 0) (by decide) (by decide)) (by decide) (by decide)) (r_w (l' := 0) (h' := 31) (r_n (x := (0 : Int32)) (l := 0) (h := 0) (by decide) (by decide)) (by decide) (by decide)) (fu_up (r_w (l' := 0) (h' := 5) (r_n (x := (0 : Int32)) (l := 0) (h := 0) (by decide) (by decide)) (by decide) (by decide)) (by decide))
theorem t_f_X6_wishBy_J85 {v85_l4 : Int32} : TotP (f_X6_wishBy_J85 v85_l4) (fun (r : Int32) => True) := by
  unfold f_X6_wishBy_J85
  refine tp_n0 (fun z90 => ?_)
  refine tp_n0 (fun z93 => ?_)
  exact tp_s trivial
theorem t_f_X6_wishBy_J53 {k1 : Int32} {k3 : Int32} {p_p : TX6_p} {v53_l4 : Int32} (h_k1 : R32 (0) (5) k1) (h_p_p_1 : R32 (0) (8) p_p.1) (h_p_p_2_1 : R32 (0) (9) p_p.2.1) (h_p_p_2_2_2_2_1 : R32 (0) (4) p_p.2.2.2.2.1) (h_p_p_2_2_2_2_2_1 : R32 (0) (5) p_p.2.2.2.2.2.1) (h_p_p_2_2_2_2_2_2_1 : R32 (0) (6) p_p.2.2.2.2.2.2.1) (h_p_p_2_2_2_2_2_2_2_1 : R32 (0) (6) p_p.2.2.2.2.2.2.2.1) : TotP (f_X6_wishBy_J53 k1 k3 p_p v53_l4) (fun (r : Int32) => True) := by
  unfold f_X6_wishBy_J53
  refine tp_g h_k1 (by decide) (by decide) ?_
  refine tp_if (fun c1 => ?_) (fun c1 => ?_)
  · skip
    have r2 : R32 (2) (2) (p_p.2.2.2.2.2.2.2.2.2.2.1 (k1).toNatClampNeg) := r_eq1 (l := 2) (h := 2) (by decide) (by decide) (r_top _) (r_n (x := (2 : Int32)) (l := 2) (h := 2) (by decide) (by decide)) c1
    exact t_f_X6_wishBy_J85 
  · skip
    refine tp_e (f_X10_fathomsOf.eq_1 _) ?_
    refine tp_nn ?_
    refine tp_n0 (fun z6 => ?_)
    refine tp_nl ?_
    refine tp_g h_k1 (by decide) (by decide) ?_
    refine tp_n0 (fun z78 => ?_)
    exact t_f_X6_wishBy_J85 
theorem t_f_X6_wishBy {k1 : Int32} {k2 : Int32} {k3 : Int32} {p_p : TX6_p} (h_k1 : R32 (0) (5) k1) (h_p_p_1 : R32 (0) (8) p_p.1) (h_p_p_2_1 : R32 (0) (9) p_p.2.1) (h_p_p_2_2_2_2_1 : R32 (0) (4) p_p.2.2.2.2.1) (h_p_p_2_2_2_2_2_1 : R32 (0) (5) p_p.2.2.2.2.2.1) (h_p_p_2_2_2_2_2_2_1 : R32 (0) (6) p_p.2.2.2.2.2.2.1) (h_p_p_2_2_2_2_2_2_2_1 : R32 (0) (6) p_p.2.2.2.2.2.2.2.1) : TotP (f_X6_wishBy k1 k2 k3 p_p) (fun (r : Int32) => True) := by
  unfold f_X6_wishBy
  refine tp_e (f_X10_spotOf.eq_1 _) ?_
  refine tp_n0 (fun o4 => ?_)
  refine tp_g h_k1 (by decide) (by decide) ?_
  refine tp_n0 (fun z14 => ?_)
  refine tp_g h_k1 (by decide) (by decide) ?_
  refine tp_if (fun c1 => ?_) (fun c1 => ?_)
  · skip
    have r2 : R32 (3) (3) (p_p.2.2.2.2.2.2.2.2.2.2.1 (k1).toNatClampNeg) := r_eq1 (l := 3) (h := 3) (by decide) (by decide) (r_top _) (r_n (x := (3 : Int32)) (l := 3) (h := 3) (by decide) (by decide)) c1
    exact t_f_X6_wishBy_J53 h_k1 h_p_p_1 h_p_p_2_1 h_p_p_2_2_2_2_1 h_p_p_2_2_2_2_2_1 h_p_p_2_2_2_2_2_2_1 h_p_p_2_2_2_2_2_2_2_1
  · skip
    refine tp_g h_k1 (by decide) (by decide) ?_
    refine tp_e (f_X10_baitOf.eq_1 _) ?_
    refine tp_n0 (fun o44 => ?_)
    refine tp_if (fun c3 => ?_) (fun c3 => ?_)
    · skip
      exact t_f_X6_wishBy_J53 h_k1 h_p_p_1 h_p_p_2_1 h_p_p_2_2_2_2_1 h_p_p_2_2_2_2_2_1 h_p_p_2_2_2_2_2_2_1 h_p_p_2_2_2_2_2_2_2_1
    · skip
      exact t_f_X6_wishBy_J53 h_k1 h_p_p_1 h_p_p_2_1 h_p_p_2_2_2_2_1 h_p_p_2_2_2_2_2_1 h_p_p_2_2_2_2_2_2_1 h_p_p_2_2_2_2_2_2_2_1
theorem t_f_X6_wishFor {k1 : Int32} {k2 : Int32} {p_p : TX6_p} (h_k1 : R32 (0) (5) k1) (h_p_p_1 : R32 (0) (8) p_p.1) (h_p_p_2_1 : R32 (0) (9) p_p.2.1) (h_p_p_2_2_2_2_1 : R32 (0) (4) p_p.2.2.2.2.1) (h_p_p_2_2_2_2_2_1 : R32 (0) (5) p_p.2.2.2.2.2.1) (h_p_p_2_2_2_2_2_2_1 : R32 (0) (6) p_p.2.2.2.2.2.2.1) (h_p_p_2_2_2_2_2_2_2_1 : R32 (0) (6) p_p.2.2.2.2.2.2.2.1) : TotP (f_X6_wishFor k1 k2 p_p) (fun (r : Int32) => True) := by
  unfold f_X6_wishFor
  refine tp_g h_k1 (by decide) (by decide) ?_
  refine tp_b (t_f_X6_wishBy h_k1 h_p_p_1 h_p_p_2_1 h_p_p_2_2_2_2_1 h_p_p_2_2_2_2_2_1 h_p_p_2_2_2_2_2_2_1 h_p_p_2_2_2_2_2_2_2_1) (fun o9 h1 => ?_)
  exact tp_s trivial
theorem t_f_X1_taker_J34 {k2_ : Int32 → TX4_n → Option (Int32 × TX4_n)} {v2_l3 : Int32} {v34_n_n : TX4_n} {N2 : Nat} (hk2 : ∀ (v2_l3 : Int32) (v2_n_n : TX4_n), R32 (0) (6) v2_l3 → (6 : Int) - v2_l3.toInt < (N2 : Nat) → TotP (k2_ v2_l3 v2_n_n) (fun (r : Int32 × TX4_n) => R32 (-1) (5) r.1)) (hm2 : (6 : Int) - v2_l3.toInt < ((N2 + 1 : Nat) : Int)) (h_v2_l3 : R32 (0) (5) v2_l3) : TotP (f_X1_taker_J34 k2_ v2_l3 v34_n_n) (fun (r : Int32 × TX4_n) => R32 (-1) (5) r.1) := by
  unfold f_X1_taker_J34
  exact hk2 _ _ (r_w (l' := 0) (h' := 6) (r_add (l := 1) (h := 6) h_v2_l3 (r_n (x := (1 : Int32)) (l := 1) (h := 1) (by decide) (by decide)) (by decide) (by decide) (by decide) (by decide)) (by decide) (by decide)) (ms_up (y := (1 : Int32)) h_v2_l3 (by decide) (by decide) (by decide) hm2)
theorem t_f_X1_taker_L2 {k2 : Int32} {p_p : TX6_p} (h_p_p_1 : R32 (1) (8) p_p.1) (h_p_p_2_1 : R32 (0) (9) p_p.2.1) (h_p_p_2_2_2_2_1 : R32 (0) (4) p_p.2.2.2.2.1) (h_p_p_2_2_2_2_2_1 : R32 (1) (5) p_p.2.2.2.2.2.1) (h_p_p_2_2_2_2_2_2_1 : R32 (0) (6) p_p.2.2.2.2.2.2.1) (h_p_p_2_2_2_2_2_2_2_1 : R32 (0) (6) p_p.2.2.2.2.2.2.2.1) : ∀ (n : Nat) (v2_l3 : Int32) (v2_n_n : TX4_n), R32 (0) (6) v2_l3 → (6 : Int) - v2_l3.toInt < (n : Int) → TotP (f_X1_taker_L2 k2 p_p n v2_l3 v2_n_n) (fun (r : Int32 × TX4_n) => R32 (-1) (5) r.1) := by
  intro n
  induction n with
  | zero =>
    intro v2_l3 v2_n_n h_v2_l3 hm
    exact (ms_0u h_v2_l3 hm).elim
  | succ n ih =>
    intro v2_l3 v2_n_n h_v2_l3 hm
    rw [f_X1_taker_L2]
    refine tp_if (fun c1 => ?_) (fun c1 => ?_)
    · skip
      exact tp_s (r_w (l' := -1) (h' := 5) (r_n (x := (-1 : Int32)) (l := -1) (h := -1) (by decide) (by decide)) (by decide) (by decide))
    · skip
      have r2 : R32 (1) (6) p_p.2.2.2.2.2.2.1 := r_nle1 (by decide) h_p_p_2_2_2_2_2_2_1 h_v2_l3 c1
      have r3 : R32 (0) (5) v2_l3 := r_nle2 (by decide) h_p_p_2_2_2_2_2_2_1 h_v2_l3 c1
      refine tp_g r3 (by decide) (by decide) ?_
      refine tp_if (fun c4 => ?_) (fun c4 => ?_)
      · skip
        have r5 : R32 (0) (0) (v2_n_n.2.2.2.1 (v2_l3).toNatClampNeg) := r_eq1 (l := 0) (h := 0) (by decide) (by decide) (r_top _) (r_n (x := (0 : Int32)) (l := 0) (h := 0) (by decide) (by decide)) c4
        refine tp_e (f_X4_draw.eq_1 _) ?_
        refine tp_nn ?_
        refine tp_n0 (fun z13 => ?_)
        refine tp_nl ?_
        refine tp_b (t_f_X6_wishFor r3 (r_w (l' := 0) (h' := 8) h_p_p_1 (by decide) (by decide)) h_p_p_2_1 h_p_p_2_2_2_2_1 (r_w (l' := 0) (h' := 5) h_p_p_2_2_2_2_2_1 (by decide) (by decide)) (r_w (l' := 0) (h' := 6) r2 (by decide) (by decide)) h_p_p_2_2_2_2_2_2_2_1) (fun o26 h6 => ?_)
        refine tp_if (fun c7 => ?_) (fun c7 => ?_)
        · skip
          exact t_f_X1_taker_J34 ih hm r3
        · skip
          have r8 : R32 (-2147483647) (2147483647) o26 := r_nle1 (by decide) (r_top _) (r_top _) c7
          have r9 : R32 (-2147483648) (2147483646) (z13 - ((z13 / (100 : Int32)) * (100 : Int32))) := r_nle2 (by decide) (r_top _) (r_top _) c7
          exact tp_s (r_w (l' := -1) (h' := 5) r3 (by decide) (by decide))
      · skip
        exact t_f_X1_taker_J34 ih hm r3
theorem t_f_X1_taker {k2 : Int32} {p_p : TX6_p} {n_n : TX4_n} (h_p_p_1 : R32 (1) (8) p_p.1) (h_p_p_2_1 : R32 (0) (9) p_p.2.1) (h_p_p_2_2_2_2_1 : R32 (0) (4) p_p.2.2.2.2.1) (h_p_p_2_2_2_2_2_1 : R32 (1) (5) p_p.2.2.2.2.2.1) (h_p_p_2_2_2_2_2_2_1 : R32 (0) (6) p_p.2.2.2.2.2.2.1) (h_p_p_2_2_2_2_2_2_2_1 : R32 (0) (6) p_p.2.2.2.2.2.2.2.1) : TotP (f_X1_taker k2 p_p n_n) (fun (r : Int32 × TX4_n) => R32 (-1) (5) r.1) := by
  unfold f_X1_taker
  exact t_f_X1_taker_L2 h_p_p_1 h_p_p_2_1 h_p_p_2_2_2_2_1 h_p_p_2_2_2_2_2_1 h_p_p_2_2_2_2_2_2_1 h_p_p_2_2_2_2_2_2_2_1 FU _ _ (r_w (l' := 0) (h' := 6) (r_n (x := (0 : Int32)) (l := 0) (h := 0) (by decide) (by decide)) (by decide) (by decide)) (fu_up (r_w (l' := 0) (h' := 6) (r_n (x := (0 : Int32)) (l := 0) (h := 0) (by decide) (by decide)) (by decide) (by decide)) (by decide))
theorem t_f_X4_land {k1 : Int32} {k2 : Int32} {n_n : TX4_n} (h_k1 : R32 (0) (5) k1) (h_k2 : R32 (0) (4) k2) : TotP (f_X4_land k1 k2 n_n) (fun (r : TX4_n) => True) := by
  unfold f_X4_land
  refine tp_g h_k1 (by decide) (by decide) ?_
  refine tp_g h_k1 (by decide) (by decide) ?_
  refine tp_g h_k1 (by decide) (by decide) ?_
  exact tp_s trivial
theorem t_f_X1_taken {k3 : Int32} {k4 : Int32} {y_y : TX1_y} {p_p : TX6_p} {n_n : TX4_n} (h_k3 : R32 (0) (4) k3) (h_k4 : R32 (0) (5) k4) (h_p_p_1 : R32 (1) (8) p_p.1) (h_p_p_2_1 : R32 (0) (9) p_p.2.1) (h_p_p_2_2_2_2_1 : R32 (0) (4) p_p.2.2.2.2.1) (h_p_p_2_2_2_2_2_1 : R32 (1) (5) p_p.2.2.2.2.2.1) (h_p_p_2_2_2_2_2_2_1 : R32 (0) (6) p_p.2.2.2.2.2.2.1) (h_p_p_2_2_2_2_2_2_2_1 : R32 (0) (6) p_p.2.2.2.2.2.2.2.1) : TotP (f_X1_taken k3 k4 y_y p_p n_n) (fun (r : Int32 × TX1_y × TX4_n) => R32 (0) (32) r.1) := by
  unfold f_X1_taken
  refine tp_g h_k3 (by decide) (by decide) ?_
  refine tp_g h_k4 (by decide) (by decide) ?_
  refine tp_if (fun c1 => ?_) (fun c1 => ?_)
  · skip
    have r2 : R32 (2) (2) (p_p.2.2.2.2.2.2.2.2.2.2.1 (k4).toNatClampNeg) := r_eq1 (l := 2) (h := 2) (by decide) (by decide) (r_top _) (r_n (x := (2 : Int32)) (l := 2) (h := 2) (by decide) (by decide)) c1
    exact tp_s (r_w (l' := 0) (h' := 32) (r_n (x := (0 : Int32)) (l := 0) (h := 0) (by decide) (by decide)) (by decide) (by decide))
  · skip
    refine tp_b (t_f_X4_land h_k4 h_k3) (fun o34 h3 => ?_)
    exact tp_s (r_w (l' := 0) (h' := 32) (r_shl 0 5 (l := 1) (h := 32) h_k4 (by decide) (by decide) (by decide)) (by decide) (by decide))
theorem t_f_X1_pass_J80 {k23_ : Int32 → Int32 → TX1_y → TX4_n → Option (Int32 × TX1_y × TX4_n)} {v23_l5 : Int32} {v80_l3 : Int32} {v80_y_y : TX1_y} {v80_n_n : TX4_n} {N23 : Nat} (hk23 : ∀ (v23_l5 : Int32) (v23_l3 : Int32) (v23_y_y : TX1_y) (v23_n_n : TX4_n), R32 (0) (5) v23_l5 → R32 (0) (63) v23_l3 → (5 : Int) - v23_l5.toInt < (N23 : Nat) → TotP (k23_ v23_l5 v23_l3 v23_y_y v23_n_n) (fun (r : Int32 × TX1_y × TX4_n) => R32 (0) (63) r.1)) (hm23 : (5 : Int) - v23_l5.toInt < ((N23 + 1 : Nat) : Int)) (h_v23_l5 : R32 (0) (4) v23_l5) (h_v80_l3 : R32 (0) (63) v80_l3) : TotP (f_X1_pass_J80 k23_ v23_l5 v80_l3 v80_y_y v80_n_n) (fun (r : Int32 × TX1_y × TX4_n) => R32 (0) (63) r.1) := by
  unfold f_X1_pass_J80
  exact hk23 _ _ _ _ (r_w (l' := 0) (h' := 5) (r_add (l := 1) (h := 5) h_v23_l5 (r_n (x := (1 : Int32)) (l := 1) (h := 1) (by decide) (by decide)) (by decide) (by decide) (by decide) (by decide)) (by decide) (by decide)) h_v80_l3 (ms_up (y := (1 : Int32)) h_v23_l5 (by decide) (by decide) (by decide) hm23)
theorem t_f_X1_pass_J59 {p_p : TX6_p} {k23_ : Int32 → Int32 → TX1_y → TX4_n → Option (Int32 × TX1_y × TX4_n)} {v23_l3 : Int32} {v23_l5 : Int32} {v23_y_y : TX1_y} {v59_t0 : Int32} {v59_n_n : TX4_n} (h_p_p_1 : R32 (1) (8) p_p.1) (h_p_p_2_1 : R32 (0) (9) p_p.2.1) (h_p_p_2_2_2_2_1 : R32 (0) (4) p_p.2.2.2.2.1) (h_p_p_2_2_2_2_2_1 : R32 (1) (5) p_p.2.2.2.2.2.1) (h_p_p_2_2_2_2_2_2_1 : R32 (0) (6) p_p.2.2.2.2.2.2.1) (h_p_p_2_2_2_2_2_2_2_1 : R32 (0) (6) p_p.2.2.2.2.2.2.2.1) {N23 : Nat} (hk23 : ∀ (v23_l5 : Int32) (v23_l3 : Int32) (v23_y_y : TX1_y) (v23_n_n : TX4_n), R32 (0) (5) v23_l5 → R32 (0) (63) v23_l3 → (5 : Int) - v23_l5.toInt < (N23 : Nat) → TotP (k23_ v23_l5 v23_l3 v23_y_y v23_n_n) (fun (r : Int32 × TX1_y × TX4_n) => R32 (0) (63) r.1)) (hm23 : (5 : Int) - v23_l5.toInt < ((N23 + 1 : Nat) : Int)) (h_v23_l3 : R32 (0) (63) v23_l3) (h_v23_l5 : R32 (0) (4) v23_l5) (h_v59_t0 : R32 (-1) (5) v59_t0) : TotP (f_X1_pass_J59 p_p k23_ v23_l3 v23_l5 v23_y_y v59_t0 v59_n_n) (fun (r : Int32 × TX1_y × TX4_n) => R32 (0) (63) r.1) := by
  unfold f_X1_pass_J59
  refine tp_if (fun c1 => ?_) (fun c1 => ?_)
  · skip
    have r2 : R32 (-1) (-1) v59_t0 := r_eq1 (l := -1) (h := -1) (by decide) (by decide) h_v59_t0 (r_n (x := (-1 : Int32)) (l := -1) (h := -1) (by decide) (by decide)) c1
    exact t_f_X1_pass_J80 hk23 hm23 h_v23_l5 h_v23_l3
  · skip
    have r3 : R32 (0) (5) v59_t0 := r_neL (by decide) h_v59_t0 (r_n (x := (-1 : Int32)) (l := -1) (h := -1) (by decide) (by decide)) c1
    refine tp_b (t_f_X1_taken h_v23_l5 r3 h_p_p_1 h_p_p_2_1 h_p_p_2_2_2_2_1 h_p_p_2_2_2_2_2_1 h_p_p_2_2_2_2_2_2_1 h_p_p_2_2_2_2_2_2_2_1) (fun o75 h4 => ?_)
    exact t_f_X1_pass_J80 hk23 hm23 h_v23_l5 (r_or 6 63 h_v23_l3 h4 (by decide) (by decide) (by decide) (by decide) (by decide))
theorem t_f_X1_pass_J86 {v86_l3 : Int32} {v86_y_y : TX1_y} {v86_n_n : TX4_n} (h_v86_l3 : R32 (0) (63) v86_l3) : TotP (f_X1_pass_J86 v86_l3 v86_y_y v86_n_n) (fun (r : Int32 × TX1_y × TX4_n) => R32 (0) (63) r.1) := by
  unfold f_X1_pass_J86
  exact tp_s h_v86_l3
theorem t_f_X1_pass_L23 {p_p : TX6_p} {o15 : Int32} (h_p_p_1 : R32 (1) (8) p_p.1) (h_p_p_2_1 : R32 (0) (9) p_p.2.1) (h_p_p_2_2_2_2_1 : R32 (0) (4) p_p.2.2.2.2.1) (h_p_p_2_2_2_2_2_1 : R32 (0) (5) p_p.2.2.2.2.2.1) (h_p_p_2_2_2_2_2_2_1 : R32 (0) (6) p_p.2.2.2.2.2.2.1) (h_p_p_2_2_2_2_2_2_2_1 : R32 (0) (6) p_p.2.2.2.2.2.2.2.1) (h_o15 : R32 (0) (31) o15) : ∀ (n : Nat) (v23_l5 : Int32) (v23_l3 : Int32) (v23_y_y : TX1_y) (v23_n_n : TX4_n), R32 (0) (5) v23_l5 → R32 (0) (63) v23_l3 → (5 : Int) - v23_l5.toInt < (n : Int) → TotP (f_X1_pass_L23 p_p o15 n v23_l5 v23_l3 v23_y_y v23_n_n) (fun (r : Int32 × TX1_y × TX4_n) => R32 (0) (63) r.1) := by
  intro n
  induction n with
  | zero =>
    intro v23_l5 v23_l3 v23_y_y v23_n_n h_v23_l5 h_v23_l3 hm
    exact (ms_0u h_v23_l5 hm).elim
  | succ n ih =>
    intro v23_l5 v23_l3 v23_y_y v23_n_n h_v23_l5 h_v23_l3 hm
    rw [f_X1_pass_L23]
    refine tp_if (fun c1 => ?_) (fun c1 => ?_)
    · skip
      exact t_f_X1_pass_J86 h_v23_l3
    · skip
      have r2 : R32 (1) (5) p_p.2.2.2.2.2.1 := r_nle1 (by decide) h_p_p_2_2_2_2_2_1 h_v23_l5 c1
      have r3 : R32 (0) (4) v23_l5 := r_nle2 (by decide) h_p_p_2_2_2_2_2_1 h_v23_l5 c1
      refine tp_if (fun c4 => ?_) (fun c4 => ?_)
      · skip
        have r5 : R32 (1) (1) ((o15 >>> (v23_l5 &&& (31 : Int32))) &&& (1 : Int32)) := r_eq1 (l := 1) (h := 1) (by decide) (by decide) r_and1 (r_n (x := (1 : Int32)) (l := 1) (h := 1) (by decide) (by decide)) c4
        refine tp_g r3 (by decide) (by decide) ?_
        refine tp_b (t_f_X1_taker h_p_p_1 h_p_p_2_1 h_p_p_2_2_2_2_1 r2 h_p_p_2_2_2_2_2_2_1 h_p_p_2_2_2_2_2_2_2_1) (fun o52 h6 => ?_)
        exact t_f_X1_pass_J59 h_p_p_1 h_p_p_2_1 h_p_p_2_2_2_2_1 r2 h_p_p_2_2_2_2_2_2_1 h_p_p_2_2_2_2_2_2_2_1 ih hm h_v23_l3 r3 h6
      · skip
        have r7 : R32 (0) (0) ((o15 >>> (v23_l5 &&& (31 : Int32))) &&& (1 : Int32)) := r_neH (by decide) r_and1 (r_n (x := (1 : Int32)) (l := 1) (h := 1) (by decide) (by decide)) c4
        exact t_f_X1_pass_J59 h_p_p_1 h_p_p_2_1 h_p_p_2_2_2_2_1 r2 h_p_p_2_2_2_2_2_2_1 h_p_p_2_2_2_2_2_2_2_1 ih hm h_v23_l3 r3 (r_w (l' := -1) (h' := 5) (r_n (x := (-1 : Int32)) (l := -1) (h := -1) (by decide) (by decide)) (by decide) (by decide))
theorem t_f_X1_pass {y_y : TX1_y} {p_p : TX6_p} {n_n : TX4_n} (h_p_p_1 : R32 (1) (8) p_p.1) (h_p_p_2_1 : R32 (0) (9) p_p.2.1) (h_p_p_2_2_2_2_1 : R32 (0) (4) p_p.2.2.2.2.1) (h_p_p_2_2_2_2_2_1 : R32 (0) (5) p_p.2.2.2.2.2.1) (h_p_p_2_2_2_2_2_2_1 : R32 (0) (6) p_p.2.2.2.2.2.2.1) (h_p_p_2_2_2_2_2_2_2_1 : R32 (0) (6) p_p.2.2.2.2.2.2.2.1) : TotP (f_X1_pass y_y p_p n_n) (fun (r : Int32 × TX1_y × TX4_n) => R32 (0) (63) r.1) := by
  unfold f_X1_pass
  refine tp_e (f_X6_isClose.eq_1 _ _) ?_
  refine tp_nn ?_
  refine tp_e (f_X10_within.eq_1 _ _ _) ?_
  refine tp_nif (fun c1 => ?_) (fun c1 => ?_)
  · skip
    have r2 : R32 (-2147483648) (2147483646) n_n.1 := r_lt1 (by decide) (r_top _) (r_top _) c1
    have r3 : R32 (-2147483647) (2147483647) p_p.2.2.1 := r_lt2 (by decide) (r_top _) (r_top _) c1
    refine tp_nl ?_
    refine tp_nl ?_
    refine tp_ift (d_eq (r_n (x := (0 : Int32)) (l := 0) (h := 0) (by decide) (by decide)) (r_n (x := (0 : Int32)) (l := 0) (h := 0) (by decide) (by decide))) ?_
    refine tp_b (t_f_X1_untangled h_p_p_1 h_p_p_2_1 h_p_p_2_2_2_2_1 h_p_p_2_2_2_2_2_1 h_p_p_2_2_2_2_2_2_1 h_p_p_2_2_2_2_2_2_2_1) (fun o15 h4 => ?_)
    exact t_f_X1_pass_L23 h_p_p_1 h_p_p_2_1 h_p_p_2_2_2_2_1 h_p_p_2_2_2_2_2_1 h_p_p_2_2_2_2_2_2_1 h_p_p_2_2_2_2_2_2_2_1 h4 FU _ _ _ _ (r_w (l' := 0) (h' := 5) (r_n (x := (0 : Int32)) (l := 0) (h := 0) (by decide) (by decide)) (by decide) (by decide)) (r_w (l' := 0) (h' := 63) (r_n (x := (0 : Int32)) (l := 0) (h := 0) (by decide) (by decide)) (by decide) (by decide)) (fu_up (r_w (l' := 0) (h' := 5) (r_n (x := (0 : Int32)) (l := 0) (h := 0) (by decide) (by decide)) (by decide) (by decide)) (by decide))
  · skip
    refine tp_nif (fun c5 => ?_) (fun c5 => ?_)
    · skip
      have r6 : R32 (-2147483648) (2147483646) p_p.2.2.2.1 := r_lt1 (by decide) (r_top _) (r_top _) c5
      have r7 : R32 (-2147483647) (2147483647) n_n.1 := r_lt2 (by decide) (r_top _) (r_top _) c5
      refine tp_nl ?_
      refine tp_nl ?_
      refine tp_ift (d_eq (r_n (x := (0 : Int32)) (l := 0) (h := 0) (by decide) (by decide)) (r_n (x := (0 : Int32)) (l := 0) (h := 0) (by decide) (by decide))) ?_
      refine tp_b (t_f_X1_untangled h_p_p_1 h_p_p_2_1 h_p_p_2_2_2_2_1 h_p_p_2_2_2_2_2_1 h_p_p_2_2_2_2_2_2_1 h_p_p_2_2_2_2_2_2_2_1) (fun o15 h8 => ?_)
      exact t_f_X1_pass_L23 h_p_p_1 h_p_p_2_1 h_p_p_2_2_2_2_1 h_p_p_2_2_2_2_2_1 h_p_p_2_2_2_2_2_2_1 h_p_p_2_2_2_2_2_2_2_1 h8 FU _ _ _ _ (r_w (l' := 0) (h' := 5) (r_n (x := (0 : Int32)) (l := 0) (h := 0) (by decide) (by decide)) (by decide) (by decide)) (r_w (l' := 0) (h' := 63) (r_n (x := (0 : Int32)) (l := 0) (h := 0) (by decide) (by decide)) (by decide) (by decide)) (fu_up (r_w (l' := 0) (h' := 5) (r_n (x := (0 : Int32)) (l := 0) (h := 0) (by decide) (by decide)) (by decide) (by decide)) (by decide))
    · skip
      refine tp_nl ?_
      refine tp_nl ?_
      refine tp_iff (d_ne2 (r_n (x := (1 : Int32)) (l := 1) (h := 1) (by decide) (by decide)) (r_n (x := (0 : Int32)) (l := 0) (h := 0) (by decide) (by decide)) (by decide)) ?_
      exact t_f_X1_pass_J86 (r_w (l' := 0) (h' := 63) (r_n (x := (0 : Int32)) (l := 0) (h := 0) (by decide) (by decide)) (by decide) (by decide))
theorem t_f_X10_day {x_x : TX10_x} {n_n : TX4_n} {p_p : TX6_p} {n2_n : TX4_n} {h_h : TX2_h} {y_y : TX1_y} (h_p_p_1 : R32 (0) (8) p_p.1) (h_p_p_2_1 : R32 (0) (9) p_p.2.1) (h_p_p_2_2_2_2_1 : R32 (0) (4) p_p.2.2.2.2.1) (h_p_p_2_2_2_2_2_1 : R32 (0) (5) p_p.2.2.2.2.2.1) (h_p_p_2_2_2_2_2_2_1 : R32 (0) (6) p_p.2.2.2.2.2.2.1) (h_p_p_2_2_2_2_2_2_2_1 : R32 (0) (6) p_p.2.2.2.2.2.2.2.1) (h_h_h_1 : R32 (0) (15) h_h.1) (h_h_h_2_1 : R32 (0) (16) h_h.2.1) (h_h_h_2_2 : R32 (0) (3) h_h.2.2) : TotP (f_X10_day x_x n_n p_p n2_n h_h y_y) (fun (r : Int32 × TX10_x × TX4_n × TX4_n × TX2_h × TX1_y) => R32 (-1) (63) r.1 ∧ R32 (0) (3) r.2.1.1 ∧ R32 (0) (15) r.2.2.2.2.1.1 ∧ R32 (0) (16) r.2.2.2.2.1.2.1 ∧ R32 (0) (3) r.2.2.2.2.1.2.2) := by
  unfold f_X10_day
  refine tp_e (f_X10_pierTrouble.eq_1 _) ?_
  refine tp_nif (fun c1 => ?_) (fun c1 => ?_)
  · skip
    have r2 : R32 (0) (0) p_p.1 := r_eq1 (l := 0) (h := 0) (by decide) (by decide) h_p_p_1 (r_n (x := (0 : Int32)) (l := 0) (h := 0) (by decide) (by decide)) c1
    refine tp_nl ?_
    refine tp_iff (d_ne2 (r_n (x := (1 : Int32)) (l := 1) (h := 1) (by decide) (by decide)) (r_n (x := (0 : Int32)) (l := 0) (h := 0) (by decide) (by decide)) (by decide)) ?_
    refine tp_u (f_X10_day_J27.eq_1 _ _ _ _ _ _ _) ?_
    refine tp_u (f_X10_day_J28.eq_1 _ _ _ _ _ _ _) ?_
    refine tp_e (f_X10_refused.eq_1 _ _) ?_
    refine tp_niff (d_ne2 (r_n (x := (1 : Int32)) (l := 1) (h := 1) (by decide) (by decide)) (r_n (x := (0 : Int32)) (l := 0) (h := 0) (by decide) (by decide)) (by decide)) ?_
    refine tp_nl ?_
    refine tp_iff (d_ne2 (r_n (x := (1 : Int32)) (l := 1) (h := 1) (by decide) (by decide)) (r_n (x := (0 : Int32)) (l := 0) (h := 0) (by decide) (by decide)) (by decide)) ?_
    exact tp_s ⟨(r_w (l' := -1) (h' := 63) (r_n (x := (-1 : Int32)) (l := -1) (h := -1) (by decide) (by decide)) (by decide) (by decide)), (r_w (l' := 0) (h' := 3) (r_n (x := (1 : Int32)) (l := 1) (h := 1) (by decide) (by decide)) (by decide) (by decide)), h_h_h_1, h_h_h_2_1, h_h_h_2_2⟩
  · skip
    have r3 : R32 (1) (8) p_p.1 := r_neL (by decide) h_p_p_1 (r_n (x := (0 : Int32)) (l := 0) (h := 0) (by decide) (by decide)) c1
    refine tp_nl ?_
    refine tp_ift (d_eq (r_n (x := (0 : Int32)) (l := 0) (h := 0) (by decide) (by decide)) (r_n (x := (0 : Int32)) (l := 0) (h := 0) (by decide) (by decide))) ?_
    refine tp_if (fun c4 => ?_) (fun c4 => ?_)
    · skip
      have r5 : R32 (-2147483648) (998) n2_n.1 := r_lt1 (by decide) (r_top _) (r_n (x := (999 : Int32)) (l := 999) (h := 999) (by decide) (by decide)) c4
      refine tp_u (f_X10_day_J27.eq_1 _ _ _ _ _ _ _) ?_
      refine tp_u (f_X10_day_J28.eq_1 _ _ _ _ _ _ _) ?_
      refine tp_e (f_X10_refused.eq_1 _ _) ?_
      refine tp_nift (d_eq (r_n (x := (0 : Int32)) (l := 0) (h := 0) (by decide) (by decide)) (r_n (x := (0 : Int32)) (l := 0) (h := 0) (by decide) (by decide))) ?_
      refine tp_nl ?_
      refine tp_ift (d_eq (r_n (x := (0 : Int32)) (l := 0) (h := 0) (by decide) (by decide)) (r_n (x := (0 : Int32)) (l := 0) (h := 0) (by decide) (by decide))) ?_
      refine tp_b (t_f_X2_keep h_h_h_1 h_h_h_2_1 h_h_h_2_2) (fun o44 h6 => ?_)
      obtain ⟨r7, r8, r9⟩ := h6
      refine tp_b (t_f_X1_pass r3 h_p_p_2_1 h_p_p_2_2_2_2_1 h_p_p_2_2_2_2_2_1 h_p_p_2_2_2_2_2_2_1 h_p_p_2_2_2_2_2_2_2_1) (fun o59 h10 => ?_)
      exact tp_s ⟨(r_w (l' := -1) (h' := 63) h10 (by decide) (by decide)), (r_w (l' := 0) (h' := 3) (r_n (x := (0 : Int32)) (l := 0) (h := 0) (by decide) (by decide)) (by decide) (by decide)), r7, (r_w (l' := 0) (h' := 16) r8 (by decide) (by decide)), r9⟩
    · skip
      have r11 : R32 (999) (2147483647) n2_n.1 := r_nlt1 (r_top _) (r_n (x := (999 : Int32)) (l := 999) (h := 999) (by decide) (by decide)) c4
      refine tp_u (f_X10_day_J28.eq_1 _ _ _ _ _ _ _) ?_
      refine tp_e (f_X10_refused.eq_1 _ _) ?_
      refine tp_niff (d_ne2 (r_n (x := (3 : Int32)) (l := 3) (h := 3) (by decide) (by decide)) (r_n (x := (0 : Int32)) (l := 0) (h := 0) (by decide) (by decide)) (by decide)) ?_
      refine tp_nl ?_
      refine tp_iff (d_ne2 (r_n (x := (1 : Int32)) (l := 1) (h := 1) (by decide) (by decide)) (r_n (x := (0 : Int32)) (l := 0) (h := 0) (by decide) (by decide)) (by decide)) ?_
      exact tp_s ⟨(r_w (l' := -1) (h' := 63) (r_n (x := (-1 : Int32)) (l := -1) (h := -1) (by decide) (by decide)) (by decide) (by decide)), (r_w (l' := 0) (h' := 3) (r_n (x := (3 : Int32)) (l := 3) (h := 3) (by decide) (by decide)) (by decide) (by decide)), h_h_h_1, h_h_h_2_1, h_h_h_2_2⟩
theorem t_f_X10_undo {x_x : TX10_x} {n_n : TX4_n} {n2_n : TX4_n} {h_h : TX2_h} (h_h_h_1 : R32 (0) (15) h_h.1) (h_h_h_2_1 : R32 (0) (16) h_h.2.1) (h_h_h_2_2 : R32 (0) (3) h_h.2.2) : TotP (f_X10_undo x_x n_n n2_n h_h) (fun (r : Int32 × TX10_x × TX4_n × TX2_h) => R32 (0) (1) r.1 ∧ R32 (0) (6) r.2.1.1 ∧ R32 (0) (15) r.2.2.2.1 ∧ R32 (0) (15) r.2.2.2.2.1 ∧ R32 (0) (3) r.2.2.2.2.2) := by
  unfold f_X10_undo
  refine tp_if (fun c1 => ?_) (fun c1 => ?_)
  · skip
    have r2 : R32 (0) (0) h_h.2.1 := r_eq1 (l := 0) (h := 0) (by decide) (by decide) h_h_h_2_1 (r_n (x := (0 : Int32)) (l := 0) (h := 0) (by decide) (by decide)) c1
    refine tp_u (f_X10_undo_J17.eq_1 _ _ _ _ _) ?_
    refine tp_e (f_X10_refused.eq_1 _ _) ?_
    refine tp_niff (d_ne2 (r_n (x := (6 : Int32)) (l := 6) (h := 6) (by decide) (by decide)) (r_n (x := (0 : Int32)) (l := 0) (h := 0) (by decide) (by decide)) (by decide)) ?_
    refine tp_nl ?_
    refine tp_iff (d_ne2 (r_n (x := (1 : Int32)) (l := 1) (h := 1) (by decide) (by decide)) (r_n (x := (0 : Int32)) (l := 0) (h := 0) (by decide) (by decide)) (by decide)) ?_
    exact tp_s ⟨(r_w (l' := 0) (h' := 1) (r_n (x := (0 : Int32)) (l := 0) (h := 0) (by decide) (by decide)) (by decide) (by decide)), (r_w (l' := 0) (h' := 6) (r_n (x := (6 : Int32)) (l := 6) (h := 6) (by decide) (by decide)) (by decide) (by decide)), h_h_h_1, (r_w (l' := 0) (h' := 15) r2 (by decide) (by decide)), h_h_h_2_2⟩
  · skip
    have r3 : R32 (1) (16) h_h.2.1 := r_neL (by decide) h_h_h_2_1 (r_n (x := (0 : Int32)) (l := 0) (h := 0) (by decide) (by decide)) c1
    refine tp_u (f_X10_undo_J17.eq_1 _ _ _ _ _) ?_
    refine tp_e (f_X10_refused.eq_1 _ _) ?_
    refine tp_nift (d_eq (r_n (x := (0 : Int32)) (l := 0) (h := 0) (by decide) (by decide)) (r_n (x := (0 : Int32)) (l := 0) (h := 0) (by decide) (by decide))) ?_
    refine tp_nl ?_
    refine tp_ift (d_eq (r_n (x := (0 : Int32)) (l := 0) (h := 0) (by decide) (by decide)) (r_n (x := (0 : Int32)) (l := 0) (h := 0) (by decide) (by decide))) ?_
    refine tp_b (t_f_X2_takeBack h_h_h_1 r3 h_h_h_2_2) (fun o33 h4 => ?_)
    obtain ⟨r5, r6, r7⟩ := h4
    exact tp_s ⟨(r_w (l' := 0) (h' := 1) (r_n (x := (1 : Int32)) (l := 1) (h := 1) (by decide) (by decide)) (by decide) (by decide)), (r_w (l' := 0) (h' := 6) (r_n (x := (0 : Int32)) (l := 0) (h := 0) (by decide) (by decide)) (by decide) (by decide)), r5, r6, r7⟩
theorem t_f_X10_mark {x_x : TX10_x} {n_n : TX4_n} {p_p : TX6_p} {n2_n : TX4_n} {h_h : TX2_h} (h_p_p_1 : R32 (0) (8) p_p.1) (h_p_p_2_1 : R32 (0) (9) p_p.2.1) (h_p_p_2_2_2_2_1 : R32 (0) (4) p_p.2.2.2.2.1) (h_p_p_2_2_2_2_2_1 : R32 (0) (5) p_p.2.2.2.2.2.1) (h_p_p_2_2_2_2_2_2_1 : R32 (0) (6) p_p.2.2.2.2.2.2.1) (h_p_p_2_2_2_2_2_2_2_1 : R32 (0) (6) p_p.2.2.2.2.2.2.2.1) (h_h_h_1 : R32 (0) (15) h_h.1) (h_h_h_2_1 : R32 (0) (16) h_h.2.1) (h_h_h_2_2 : R32 (0) (3) h_h.2.2) : TotP (f_X10_mark x_x n_n p_p n2_n h_h) (fun (r : Int32 × TX10_x × TX4_n × TX2_h) => R32 (-1) (2) r.1 ∧ R32 (0) (3) r.2.1.1 ∧ R32 (0) (15) r.2.2.2.1 ∧ R32 (0) (16) r.2.2.2.2.1 ∧ R32 (0) (3) r.2.2.2.2.2) := by
  unfold f_X10_mark
  refine tp_e (f_X10_pierTrouble.eq_1 _) ?_
  refine tp_nif (fun c1 => ?_) (fun c1 => ?_)
  · skip
    have r2 : R32 (0) (0) p_p.1 := r_eq1 (l := 0) (h := 0) (by decide) (by decide) h_p_p_1 (r_n (x := (0 : Int32)) (l := 0) (h := 0) (by decide) (by decide)) c1
    refine tp_nl ?_
    refine tp_iff (d_ne2 (r_n (x := (1 : Int32)) (l := 1) (h := 1) (by decide) (by decide)) (r_n (x := (0 : Int32)) (l := 0) (h := 0) (by decide) (by decide)) (by decide)) ?_
    refine tp_u (f_X10_mark_J25.eq_1 _ _ _ _ _) ?_
    refine tp_u (f_X10_mark_J26.eq_1 _ _ _ _ _) ?_
    refine tp_e (f_X10_refused.eq_1 _ _) ?_
    refine tp_niff (d_ne2 (r_n (x := (1 : Int32)) (l := 1) (h := 1) (by decide) (by decide)) (r_n (x := (0 : Int32)) (l := 0) (h := 0) (by decide) (by decide)) (by decide)) ?_
    refine tp_nl ?_
    refine tp_iff (d_ne2 (r_n (x := (1 : Int32)) (l := 1) (h := 1) (by decide) (by decide)) (r_n (x := (0 : Int32)) (l := 0) (h := 0) (by decide) (by decide)) (by decide)) ?_
    exact tp_s ⟨(r_w (l' := -1) (h' := 2) (r_n (x := (-1 : Int32)) (l := -1) (h := -1) (by decide) (by decide)) (by decide) (by decide)), (r_w (l' := 0) (h' := 3) (r_n (x := (1 : Int32)) (l := 1) (h := 1) (by decide) (by decide)) (by decide) (by decide)), h_h_h_1, h_h_h_2_1, h_h_h_2_2⟩
  · skip
    have r3 : R32 (1) (8) p_p.1 := r_neL (by decide) h_p_p_1 (r_n (x := (0 : Int32)) (l := 0) (h := 0) (by decide) (by decide)) c1
    refine tp_nl ?_
    refine tp_ift (d_eq (r_n (x := (0 : Int32)) (l := 0) (h := 0) (by decide) (by decide)) (r_n (x := (0 : Int32)) (l := 0) (h := 0) (by decide) (by decide))) ?_
    refine tp_if (fun c4 => ?_) (fun c4 => ?_)
    · skip
      have r5 : R32 (0) (2) h_h.2.2 := r_lt1 (by decide) h_h_h_2_2 (r_n (x := (3 : Int32)) (l := 3) (h := 3) (by decide) (by decide)) c4
      refine tp_u (f_X10_mark_J25.eq_1 _ _ _ _ _) ?_
      refine tp_u (f_X10_mark_J26.eq_1 _ _ _ _ _) ?_
      refine tp_e (f_X10_refused.eq_1 _ _) ?_
      refine tp_nift (d_eq (r_n (x := (0 : Int32)) (l := 0) (h := 0) (by decide) (by decide)) (r_n (x := (0 : Int32)) (l := 0) (h := 0) (by decide) (by decide))) ?_
      refine tp_nl ?_
      refine tp_ift (d_eq (r_n (x := (0 : Int32)) (l := 0) (h := 0) (by decide) (by decide)) (r_n (x := (0 : Int32)) (l := 0) (h := 0) (by decide) (by decide))) ?_
      refine tp_b (t_f_X2_setMark h_h_h_1 h_h_h_2_1 r5) (fun o42 h6 => ?_)
      obtain ⟨r7, r8, r9, r10⟩ := h6
      exact tp_s ⟨(r_w (l' := -1) (h' := 2) r7 (by decide) (by decide)), (r_w (l' := 0) (h' := 3) (r_n (x := (0 : Int32)) (l := 0) (h := 0) (by decide) (by decide)) (by decide) (by decide)), r8, r9, (r_w (l' := 0) (h' := 3) r10 (by decide) (by decide))⟩
    · skip
      have r11 : R32 (3) (3) h_h.2.2 := r_nlt1 h_h_h_2_2 (r_n (x := (3 : Int32)) (l := 3) (h := 3) (by decide) (by decide)) c4
      refine tp_u (f_X10_mark_J26.eq_1 _ _ _ _ _) ?_
      refine tp_e (f_X10_refused.eq_1 _ _) ?_
      refine tp_niff (d_ne2 (r_n (x := (3 : Int32)) (l := 3) (h := 3) (by decide) (by decide)) (r_n (x := (0 : Int32)) (l := 0) (h := 0) (by decide) (by decide)) (by decide)) ?_
      refine tp_nl ?_
      refine tp_iff (d_ne2 (r_n (x := (1 : Int32)) (l := 1) (h := 1) (by decide) (by decide)) (r_n (x := (0 : Int32)) (l := 0) (h := 0) (by decide) (by decide)) (by decide)) ?_
      exact tp_s ⟨(r_w (l' := -1) (h' := 2) (r_n (x := (-1 : Int32)) (l := -1) (h := -1) (by decide) (by decide)) (by decide) (by decide)), (r_w (l' := 0) (h' := 3) (r_n (x := (3 : Int32)) (l := 3) (h := 3) (by decide) (by decide)) (by decide) (by decide)), h_h_h_1, h_h_h_2_1, (r_w (l' := 0) (h' := 3) r11 (by decide) (by decide))⟩
theorem t_f_X10_back {k1 : Int32} {x_x : TX10_x} {n_n : TX4_n} {n2_n : TX4_n} {h_h : TX2_h} (h_h_h_1 : R32 (0) (15) h_h.1) (h_h_h_2_1 : R32 (0) (16) h_h.2.1) (h_h_h_2_2 : R32 (0) (3) h_h.2.2) : TotP (f_X10_back k1 x_x n_n n2_n h_h) (fun (r : Int32 × TX10_x × TX4_n × TX2_h) => R32 (0) (1) r.1 ∧ R32 (0) (1) r.2.1.1 ∧ R32 (0) (15) r.2.2.2.1 ∧ R32 (0) (16) r.2.2.2.2.1 ∧ R32 (0) (3) r.2.2.2.2.2) := by
  unfold f_X10_back
  refine tp_e (f_X10_within.eq_1 _ _ _) ?_
  refine tp_nif (fun c1 => ?_) (fun c1 => ?_)
  · skip
    have r2 : R32 (-2147483648) (-1) k1 := r_lt1 (by decide) (r_top _) (r_n (x := (0 : Int32)) (l := 0) (h := 0) (by decide) (by decide)) c1
    refine tp_nl ?_
    refine tp_ift (d_eq (r_n (x := (0 : Int32)) (l := 0) (h := 0) (by decide) (by decide)) (r_n (x := (0 : Int32)) (l := 0) (h := 0) (by decide) (by decide))) ?_
    refine tp_u (f_X10_back_J23.eq_1 _ _ _ _ _ _) ?_
    refine tp_e (f_X10_refused.eq_1 _ _) ?_
    refine tp_niff (d_ne2 (r_n (x := (1 : Int32)) (l := 1) (h := 1) (by decide) (by decide)) (r_n (x := (0 : Int32)) (l := 0) (h := 0) (by decide) (by decide)) (by decide)) ?_
    refine tp_nl ?_
    refine tp_iff (d_ne2 (r_n (x := (1 : Int32)) (l := 1) (h := 1) (by decide) (by decide)) (r_n (x := (0 : Int32)) (l := 0) (h := 0) (by decide) (by decide)) (by decide)) ?_
    exact tp_s ⟨(r_w (l' := 0) (h' := 1) (r_n (x := (0 : Int32)) (l := 0) (h := 0) (by decide) (by decide)) (by decide) (by decide)), (r_w (l' := 0) (h' := 1) (r_n (x := (1 : Int32)) (l := 1) (h := 1) (by decide) (by decide)) (by decide) (by decide)), h_h_h_1, h_h_h_2_1, h_h_h_2_2⟩
  · skip
    have r3 : R32 (0) (2147483647) k1 := r_nlt1 (r_top _) (r_n (x := (0 : Int32)) (l := 0) (h := 0) (by decide) (by decide)) c1
    refine tp_nif (fun c4 => ?_) (fun c4 => ?_)
    · skip
      refine tp_nl ?_
      refine tp_ift (d_eq (r_n (x := (0 : Int32)) (l := 0) (h := 0) (by decide) (by decide)) (r_n (x := (0 : Int32)) (l := 0) (h := 0) (by decide) (by decide))) ?_
      refine tp_u (f_X10_back_J23.eq_1 _ _ _ _ _ _) ?_
      refine tp_e (f_X10_refused.eq_1 _ _) ?_
      refine tp_niff (d_ne2 (r_n (x := (1 : Int32)) (l := 1) (h := 1) (by decide) (by decide)) (r_n (x := (0 : Int32)) (l := 0) (h := 0) (by decide) (by decide)) (by decide)) ?_
      refine tp_nl ?_
      refine tp_iff (d_ne2 (r_n (x := (1 : Int32)) (l := 1) (h := 1) (by decide) (by decide)) (r_n (x := (0 : Int32)) (l := 0) (h := 0) (by decide) (by decide)) (by decide)) ?_
      exact tp_s ⟨(r_w (l' := 0) (h' := 1) (r_n (x := (0 : Int32)) (l := 0) (h := 0) (by decide) (by decide)) (by decide) (by decide)), (r_w (l' := 0) (h' := 1) (r_n (x := (1 : Int32)) (l := 1) (h := 1) (by decide) (by decide)) (by decide) (by decide)), h_h_h_1, h_h_h_2_1, h_h_h_2_2⟩
    · skip
      have r5 : R32 (0) (2) (h_h.2.2 - (1 : Int32)) := r_nlt1 (r_sub (l := -1) (h := 2) h_h_h_2_2 (r_n (x := (1 : Int32)) (l := 1) (h := 1) (by decide) (by decide)) (by decide) (by decide) (by decide) (by decide)) r3 c4
      have r6 : R32 (0) (2) k1 := r_nlt2 (r_sub (l := -1) (h := 2) h_h_h_2_2 (r_n (x := (1 : Int32)) (l := 1) (h := 1) (by decide) (by decide)) (by decide) (by decide) (by decide) (by decide)) r3 c4
      refine tp_nl ?_
      refine tp_iff (d_ne2 (r_n (x := (1 : Int32)) (l := 1) (h := 1) (by decide) (by decide)) (r_n (x := (0 : Int32)) (l := 0) (h := 0) (by decide) (by decide)) (by decide)) ?_
      refine tp_u (f_X10_back_J23.eq_1 _ _ _ _ _ _) ?_
      refine tp_e (f_X10_refused.eq_1 _ _) ?_
      refine tp_nift (d_eq (r_n (x := (0 : Int32)) (l := 0) (h := 0) (by decide) (by decide)) (r_n (x := (0 : Int32)) (l := 0) (h := 0) (by decide) (by decide))) ?_
      refine tp_nl ?_
      refine tp_ift (d_eq (r_n (x := (0 : Int32)) (l := 0) (h := 0) (by decide) (by decide)) (r_n (x := (0 : Int32)) (l := 0) (h := 0) (by decide) (by decide))) ?_
      refine tp_b (t_f_X2_goBack r6 h_h_h_1 h_h_h_2_1 h_h_h_2_2) (fun o40 h7 => ?_)
      obtain ⟨r8, r9, r10⟩ := h7
      exact tp_s ⟨(r_w (l' := 0) (h' := 1) (r_n (x := (1 : Int32)) (l := 1) (h := 1) (by decide) (by decide)) (by decide) (by decide)), (r_w (l' := 0) (h' := 1) (r_n (x := (0 : Int32)) (l := 0) (h := 0) (by decide) (by decide)) (by decide) (by decide)), r8, r9, r10⟩
theorem t_f_X10_feed {k1 : Int32} {k2 : Int32} {k3 : Int32} {k4 : Int32} {k5 : Int32} {r_r : TX7_r} (h_r_r_2_1 : R32 (0) (900) r_r.2.1) : TotP (f_X10_feed k1 k2 k3 k4 k5 r_r) (fun (r : Int32 × TX7_r) => R32 (-1) (900) r.1 ∧ R32 (0) (900) r.2.2.1) := by
  unfold f_X10_feed
  refine tp_if (fun c1 => ?_) (fun c1 => ?_)
  · skip
    have r2 : R32 (20) (900) (r_r.2.1 + (20 : Int32)) := r_le1 (r_add (l := 20) (h := 920) h_r_r_2_1 (r_n (x := (20 : Int32)) (l := 20) (h := 20) (by decide) (by decide)) (by decide) (by decide) (by decide) (by decide)) (r_n (x := (900 : Int32)) (l := 900) (h := 900) (by decide) (by decide)) c1
    refine tp_b (t_f_X7_put h_r_r_2_1) (fun o23 h3 => ?_)
    refine tp_b (t_f_X7_put h3) (fun o31 h4 => ?_)
    refine tp_b (t_f_X7_put h4) (fun o39 h5 => ?_)
    refine tp_b (t_f_X7_put h5) (fun o48 h6 => ?_)
    refine tp_b (t_f_X7_put h6) (fun o57 h7 => ?_)
    exact tp_s ⟨(r_w (l' := -1) (h' := 900) h7 (by decide) (by decide)), h7⟩
  · skip
    have r8 : R32 (901) (920) (r_r.2.1 + (20 : Int32)) := r_nle1 (by decide) (r_add (l := 20) (h := 920) h_r_r_2_1 (r_n (x := (20 : Int32)) (l := 20) (h := 20) (by decide) (by decide)) (by decide) (by decide) (by decide) (by decide)) (r_n (x := (900 : Int32)) (l := 900) (h := 900) (by decide) (by decide)) c1
    exact tp_s ⟨(r_w (l' := -1) (h' := 900) (r_n (x := (-1 : Int32)) (l := -1) (h := -1) (by decide) (by decide)) (by decide) (by decide)), h_r_r_2_1⟩
theorem t_f_X12_remembers_L51 {m_v : TX12_v} : ∀ (n : Nat) (v51_l1 : Int32) (v51_m_h : TX12_h), R32 (0) (26) v51_l1 → R32 (0) (15) v51_m_h.2.2.1 → R32 (0) (3) v51_m_h.2.2.2 → (26 : Int) - v51_l1.toInt < (n : Int) → TotP (f_X12_remembers_L51 m_v n v51_l1 v51_m_h) (fun (r : TX12_h) => R32 (1) (16) r.2.2.1 ∧ R32 (0) (3) r.2.2.2) := by
  intro n
  induction n with
  | zero =>
    intro v51_l1 v51_m_h h_v51_l1 h_v51_m_h_2_2_1 h_v51_m_h_2_2_2 hm
    exact (ms_0u h_v51_l1 hm).elim
  | succ n ih =>
    intro v51_l1 v51_m_h h_v51_l1 h_v51_m_h_2_2_1 h_v51_m_h_2_2_2 hm
    rw [f_X12_remembers_L51]
    refine tp_if (fun c1 => ?_) (fun c1 => ?_)
    · skip
      have r2 : R32 (26) (26) v51_l1 := r_le2 (r_n (x := (26 : Int32)) (l := 26) (h := 26) (by decide) (by decide)) h_v51_l1 c1
      exact tp_s ⟨(r_add (l := 1) (h := 16) h_v51_m_h_2_2_1 (r_n (x := (1 : Int32)) (l := 1) (h := 1) (by decide) (by decide)) (by decide) (by decide) (by decide) (by decide)), h_v51_m_h_2_2_2⟩
    · skip
      have r3 : R32 (0) (25) v51_l1 := r_nle2 (by decide) (r_n (x := (26 : Int32)) (l := 26) (h := 26) (by decide) (by decide)) h_v51_l1 c1
      refine tp_g r3 (by decide) (by decide) ?_
      refine tp_g (r_add (l := 0) (h := 415) (r_mul (l := 0) (h := 390) (r_n (x := (26 : Int32)) (l := 26) (h := 26) (by decide) (by decide)) h_v51_m_h_2_2_1 (by decide) (by decide) (by decide) (by decide) (by decide)) r3 (by decide) (by decide) (by decide) (by decide)) (by decide) (by decide) ?_
      exact ih _ _ (r_w (l' := 0) (h' := 26) (r_add (l := 1) (h := 26) r3 (r_n (x := (1 : Int32)) (l := 1) (h := 1) (by decide) (by decide)) (by decide) (by decide) (by decide) (by decide)) (by decide) (by decide)) h_v51_m_h_2_2_1 h_v51_m_h_2_2_2 (ms_up (y := (1 : Int32)) r3 (by decide) (by decide) (by decide) hm)
theorem t_f_X12_remembers_J49 {m_v : TX12_v} {v49_m_h : TX12_h} (h_v49_m_h_2_2_1 : R32 (0) (15) v49_m_h.2.2.1) (h_v49_m_h_2_2_2 : R32 (0) (3) v49_m_h.2.2.2) : TotP (f_X12_remembers_J49 m_v v49_m_h) (fun (r : TX12_h) => R32 (1) (16) r.2.2.1 ∧ R32 (0) (3) r.2.2.2) := by
  unfold f_X12_remembers_J49
  exact t_f_X12_remembers_L51  FU _ _ (r_w (l' := 0) (h' := 26) (r_n (x := (0 : Int32)) (l := 0) (h := 0) (by decide) (by decide)) (by decide) (by decide)) h_v49_m_h_2_2_1 h_v49_m_h_2_2_2 (fu_up (r_w (l' := 0) (h' := 26) (r_n (x := (0 : Int32)) (l := 0) (h := 0) (by decide) (by decide)) (by decide) (by decide)) (by decide))
theorem t_f_X12_remembers_L11 {m_v : TX12_v} : ∀ (n : Nat) (v11_l1 : Int32) (v11_m_h : TX12_h), R32 (0) (390) v11_l1 → R32 (16) (16) v11_m_h.2.2.1 → R32 (0) (3) v11_m_h.2.2.2 → (390 : Int) - v11_l1.toInt < (n : Int) → TotP (f_X12_remembers_L11 m_v n v11_l1 v11_m_h) (fun (r : TX12_h) => R32 (1) (16) r.2.2.1 ∧ R32 (0) (3) r.2.2.2) := by
  intro n
  induction n with
  | zero =>
    intro v11_l1 v11_m_h h_v11_l1 h_v11_m_h_2_2_1 h_v11_m_h_2_2_2 hm
    exact (ms_0u h_v11_l1 hm).elim
  | succ n ih =>
    intro v11_l1 v11_m_h h_v11_l1 h_v11_m_h_2_2_1 h_v11_m_h_2_2_2 hm
    rw [f_X12_remembers_L11]
    refine tp_if (fun c1 => ?_) (fun c1 => ?_)
    · skip
      have r2 : R32 (390) (390) v11_l1 := r_le2 (r_n (x := (390 : Int32)) (l := 390) (h := 390) (by decide) (by decide)) h_v11_l1 c1
      exact t_f_X12_remembers_J49 (r_w (l' := 0) (h' := 15) (r_sub (l := 15) (h := 15) h_v11_m_h_2_2_1 (r_n (x := (1 : Int32)) (l := 1) (h := 1) (by decide) (by decide)) (by decide) (by decide) (by decide) (by decide)) (by decide) (by decide)) h_v11_m_h_2_2_2
    · skip
      have r3 : R32 (0) (389) v11_l1 := r_nle2 (by decide) (r_n (x := (390 : Int32)) (l := 390) (h := 390) (by decide) (by decide)) h_v11_l1 c1
      refine tp_g (r_add (l := 26) (h := 415) r3 (r_n (x := (26 : Int32)) (l := 26) (h := 26) (by decide) (by decide)) (by decide) (by decide) (by decide) (by decide)) (by decide) (by decide) ?_
      refine tp_g r3 (by decide) (by decide) ?_
      exact ih _ _ (r_w (l' := 0) (h' := 390) (r_add (l := 1) (h := 390) r3 (r_n (x := (1 : Int32)) (l := 1) (h := 1) (by decide) (by decide)) (by decide) (by decide) (by decide) (by decide)) (by decide) (by decide)) h_v11_m_h_2_2_1 h_v11_m_h_2_2_2 (ms_up (y := (1 : Int32)) r3 (by decide) (by decide) (by decide) hm)
theorem t_f_X12_remembers {m_v : TX12_v} {m_h : TX12_h} (h_m_h_2_2_1 : R32 (0) (16) m_h.2.2.1) (h_m_h_2_2_2 : R32 (0) (3) m_h.2.2.2) : TotP (f_X12_remembers m_v m_h) (fun (r : TX12_h) => R32 (1) (16) r.2.2.1 ∧ R32 (0) (3) r.2.2.2) := by
  unfold f_X12_remembers
  refine tp_if (fun c1 => ?_) (fun c1 => ?_)
  · skip
    have r2 : R32 (16) (16) m_h.2.2.1 := r_eq1 (l := 16) (h := 16) (by decide) (by decide) h_m_h_2_2_1 (r_n (x := (16 : Int32)) (l := 16) (h := 16) (by decide) (by decide)) c1
    exact t_f_X12_remembers_L11  FU _ _ (r_w (l' := 0) (h' := 390) (r_n (x := (0 : Int32)) (l := 0) (h := 0) (by decide) (by decide)) (by decide) (by decide)) r2 h_m_h_2_2_2 (fu_up (r_w (l' := 0) (h' := 390) (r_n (x := (0 : Int32)) (l := 0) (h := 0) (by decide) (by decide)) (by decide) (by decide)) (by decide))
  · skip
    have r3 : R32 (0) (15) m_h.2.2.1 := r_neH (by decide) h_m_h_2_2_1 (r_n (x := (16 : Int32)) (l := 16) (h := 16) (by decide) (by decide)) c1
    exact t_f_X12_remembers_J49 r3 h_m_h_2_2_2
theorem t_f_X12_let_J63 {m_t : TX12_t} {m_v : TX12_v} {m_h : TX12_h} (h_m_h_2_2_1 : R32 (0) (16) m_h.2.2.1) (h_m_h_2_2_2 : R32 (0) (3) m_h.2.2.2) : TotP (f_X12_let_J63 m_t m_v m_h) (fun (r : Int32 × TX12_t × TX12_v × TX12_h) => R32 (0) (1) r.1 ∧ R32 (0) (0) r.2.1.1 ∧ R32 (0) (5) r.2.1.2.1 ∧ R32 (-1) (-1) r.2.1.2.2 ∧ R32 (0) (16) r.2.2.2.2.2.1 ∧ R32 (0) (3) r.2.2.2.2.2.2) := by
  unfold f_X12_let_J63
  refine tp_e (f_X12_denied.eq_1 _ _) ?_
  refine tp_nn ?_
  refine tp_e (f_X12_refused.eq_1 _ _) ?_
  refine tp_nl ?_
  refine tp_nl ?_
  exact tp_s ⟨(r_w (l' := 0) (h' := 1) (r_n (x := (0 : Int32)) (l := 0) (h := 0) (by decide) (by decide)) (by decide) (by decide)), (r_n (x := (0 : Int32)) (l := 0) (h := 0) (by decide) (by decide)), (r_w (l' := 0) (h' := 5) (r_n (x := (5 : Int32)) (l := 5) (h := 5) (by decide) (by decide)) (by decide) (by decide)), (r_n (x := (-1 : Int32)) (l := -1) (h := -1) (by decide) (by decide)), h_m_h_2_2_1, h_m_h_2_2_2⟩
theorem t_f_X12_let {k1 : Int32} {k2 : Int32} {k3 : Int32} {k4 : Int32} {m_t : TX12_t} {m_v : TX12_v} {m_h : TX12_h} {q_q : TX11_q} (h_m_h_2_2_1 : R32 (0) (16) m_h.2.2.1) (h_m_h_2_2_2 : R32 (0) (3) m_h.2.2.2) (h_q_q_1 : R32 (2) (8) q_q.1) (h_q_q_2_1 : R32 (1) (9) q_q.2.1) (h_q_q_2_2_2_2_1 : R32 (1) (4) q_q.2.2.2.2.1) (h_q_q_2_2_2_2_2_1 : R32 (0) (5) q_q.2.2.2.2.2.1) (h_q_q_2_2_2_2_2_2_1 : R32 (0) (6) q_q.2.2.2.2.2.2.1) (h_q_q_2_2_2_2_2_2_2_1 : R32 (0) (6) q_q.2.2.2.2.2.2.2.1) : TotP (f_X12_let k1 k2 k3 k4 m_t m_v m_h q_q) (fun (r : Int32 × TX12_t × TX12_v × TX12_h) => R32 (0) (1) r.1 ∧ R32 (0) (0) r.2.1.1 ∧ R32 (0) (5) r.2.1.2.1 ∧ R32 (-1) (-1) r.2.1.2.2 ∧ R32 (0) (16) r.2.2.2.2.2.1 ∧ R32 (0) (3) r.2.2.2.2.2.2) := by
  unfold f_X12_let
  refine tp_e (f_X12_isAsker.eq_1 _ _) ?_
  refine tp_nif (fun c1 => ?_) (fun c1 => ?_)
  · skip
    have r2 : R32 (-2147483648) (-1) k1 := r_lt1 (by decide) (r_top _) (r_n (x := (0 : Int32)) (l := 0) (h := 0) (by decide) (by decide)) c1
    refine tp_nl ?_
    refine tp_e (f_X12_refusesQuestion.eq_1 _ _ _ _ _) ?_
    refine tp_nift (d_eq (r_n (x := (0 : Int32)) (l := 0) (h := 0) (by decide) (by decide)) (r_n (x := (0 : Int32)) (l := 0) (h := 0) (by decide) (by decide))) ?_
    refine tp_nl ?_
    refine tp_iff (d_nle (r_n (x := (1 : Int32)) (l := 1) (h := 1) (by decide) (by decide)) (r_n (x := (0 : Int32)) (l := 0) (h := 0) (by decide) (by decide)) (by decide)) ?_
    refine tp_e (f_X12_denied.eq_1 _ _) ?_
    refine tp_nn ?_
    refine tp_e (f_X12_refused.eq_1 _ _) ?_
    refine tp_nl ?_
    refine tp_nl ?_
    exact tp_s ⟨(r_w (l' := 0) (h' := 1) (r_n (x := (0 : Int32)) (l := 0) (h := 0) (by decide) (by decide)) (by decide) (by decide)), (r_n (x := (0 : Int32)) (l := 0) (h := 0) (by decide) (by decide)), (r_w (l' := 0) (h' := 5) (r_n (x := (1 : Int32)) (l := 1) (h := 1) (by decide) (by decide)) (by decide) (by decide)), (r_n (x := (-1 : Int32)) (l := -1) (h := -1) (by decide) (by decide)), h_m_h_2_2_1, h_m_h_2_2_2⟩
  · skip
    have r3 : R32 (0) (2147483647) k1 := r_nlt1 (r_top _) (r_n (x := (0 : Int32)) (l := 0) (h := 0) (by decide) (by decide)) c1
    refine tp_nif (fun c4 => ?_) (fun c4 => ?_)
    · skip
      refine tp_nl ?_
      refine tp_e (f_X12_refusesQuestion.eq_1 _ _ _ _ _) ?_
      refine tp_nift (d_eq (r_n (x := (0 : Int32)) (l := 0) (h := 0) (by decide) (by decide)) (r_n (x := (0 : Int32)) (l := 0) (h := 0) (by decide) (by decide))) ?_
      refine tp_nl ?_
      refine tp_iff (d_nle (r_n (x := (1 : Int32)) (l := 1) (h := 1) (by decide) (by decide)) (r_n (x := (0 : Int32)) (l := 0) (h := 0) (by decide) (by decide)) (by decide)) ?_
      refine tp_e (f_X12_denied.eq_1 _ _) ?_
      refine tp_nn ?_
      refine tp_e (f_X12_refused.eq_1 _ _) ?_
      refine tp_nl ?_
      refine tp_nl ?_
      exact tp_s ⟨(r_w (l' := 0) (h' := 1) (r_n (x := (0 : Int32)) (l := 0) (h := 0) (by decide) (by decide)) (by decide) (by decide)), (r_n (x := (0 : Int32)) (l := 0) (h := 0) (by decide) (by decide)), (r_w (l' := 0) (h' := 5) (r_n (x := (1 : Int32)) (l := 1) (h := 1) (by decide) (by decide)) (by decide) (by decide)), (r_n (x := (-1 : Int32)) (l := -1) (h := -1) (by decide) (by decide)), h_m_h_2_2_1, h_m_h_2_2_2⟩
    · skip
      have r5 : R32 (1) (5) q_q.2.2.2.2.2.1 := r_nle1 (by decide) h_q_q_2_2_2_2_2_1 r3 c4
      have r6 : R32 (0) (4) k1 := r_nle2 (by decide) h_q_q_2_2_2_2_2_1 r3 c4
      refine tp_nl ?_
      refine tp_e (f_X12_refusesQuestion.eq_1 _ _ _ _ _) ?_
      refine tp_niff (d_ne2 (r_n (x := (1 : Int32)) (l := 1) (h := 1) (by decide) (by decide)) (r_n (x := (0 : Int32)) (l := 0) (h := 0) (by decide) (by decide)) (by decide)) ?_
      refine tp_nn ?_
      refine tp_e (f_X12_in.eq_1 _ _ _) ?_
      refine tp_nif (fun c7 => ?_) (fun c7 => ?_)
      · skip
        have r8 : R32 (-2147483648) (-1) k2 := r_lt1 (by decide) (r_top _) (r_n (x := (0 : Int32)) (l := 0) (h := 0) (by decide) (by decide)) c7
        refine tp_nl ?_
        refine tp_nift (d_eq (r_n (x := (0 : Int32)) (l := 0) (h := 0) (by decide) (by decide)) (r_n (x := (0 : Int32)) (l := 0) (h := 0) (by decide) (by decide))) ?_
        refine tp_nl ?_
        refine tp_iff (d_nle (r_n (x := (1 : Int32)) (l := 1) (h := 1) (by decide) (by decide)) (r_n (x := (0 : Int32)) (l := 0) (h := 0) (by decide) (by decide)) (by decide)) ?_
        refine tp_e (f_X12_denied.eq_1 _ _) ?_
        refine tp_nn ?_
        refine tp_e (f_X12_refused.eq_1 _ _) ?_
        refine tp_nl ?_
        refine tp_nl ?_
        exact tp_s ⟨(r_w (l' := 0) (h' := 1) (r_n (x := (0 : Int32)) (l := 0) (h := 0) (by decide) (by decide)) (by decide) (by decide)), (r_n (x := (0 : Int32)) (l := 0) (h := 0) (by decide) (by decide)), (r_w (l' := 0) (h' := 5) (r_n (x := (1 : Int32)) (l := 1) (h := 1) (by decide) (by decide)) (by decide) (by decide)), (r_n (x := (-1 : Int32)) (l := -1) (h := -1) (by decide) (by decide)), h_m_h_2_2_1, h_m_h_2_2_2⟩
      · skip
        have r9 : R32 (0) (2147483647) k2 := r_nlt1 (r_top _) (r_n (x := (0 : Int32)) (l := 0) (h := 0) (by decide) (by decide)) c7
        refine tp_nif (fun c10 => ?_) (fun c10 => ?_)
        · skip
          have r11 : R32 (2) (2147483647) k2 := r_lt2 (by decide) (r_sub (l := 1) (h := 7) h_q_q_1 (r_n (x := (1 : Int32)) (l := 1) (h := 1) (by decide) (by decide)) (by decide) (by decide) (by decide) (by decide)) r9 c10
          refine tp_nl ?_
          refine tp_nift (d_eq (r_n (x := (0 : Int32)) (l := 0) (h := 0) (by decide) (by decide)) (r_n (x := (0 : Int32)) (l := 0) (h := 0) (by decide) (by decide))) ?_
          refine tp_nl ?_
          refine tp_iff (d_nle (r_n (x := (1 : Int32)) (l := 1) (h := 1) (by decide) (by decide)) (r_n (x := (0 : Int32)) (l := 0) (h := 0) (by decide) (by decide)) (by decide)) ?_
          refine tp_e (f_X12_denied.eq_1 _ _) ?_
          refine tp_nn ?_
          refine tp_e (f_X12_refused.eq_1 _ _) ?_
          refine tp_nl ?_
          refine tp_nl ?_
          exact tp_s ⟨(r_w (l' := 0) (h' := 1) (r_n (x := (0 : Int32)) (l := 0) (h := 0) (by decide) (by decide)) (by decide) (by decide)), (r_n (x := (0 : Int32)) (l := 0) (h := 0) (by decide) (by decide)), (r_w (l' := 0) (h' := 5) (r_n (x := (1 : Int32)) (l := 1) (h := 1) (by decide) (by decide)) (by decide) (by decide)), (r_n (x := (-1 : Int32)) (l := -1) (h := -1) (by decide) (by decide)), h_m_h_2_2_1, h_m_h_2_2_2⟩
        · skip
          have r12 : R32 (0) (7) k2 := r_nlt2 (r_sub (l := 1) (h := 7) h_q_q_1 (r_n (x := (1 : Int32)) (l := 1) (h := 1) (by decide) (by decide)) (by decide) (by decide) (by decide) (by decide)) r9 c10
          refine tp_nl ?_
          refine tp_niff (d_ne2 (r_n (x := (1 : Int32)) (l := 1) (h := 1) (by decide) (by decide)) (r_n (x := (0 : Int32)) (l := 0) (h := 0) (by decide) (by decide)) (by decide)) ?_
          refine tp_nn ?_
          refine tp_e (f_X12_in.eq_1 _ _ _) ?_
          refine tp_nif (fun c13 => ?_) (fun c13 => ?_)
          · skip
            have r14 : R32 (-2147483648) (-1) k4 := r_lt1 (by decide) (r_top _) (r_n (x := (0 : Int32)) (l := 0) (h := 0) (by decide) (by decide)) c13
            refine tp_nl ?_
            refine tp_nift (d_eq (r_n (x := (0 : Int32)) (l := 0) (h := 0) (by decide) (by decide)) (r_n (x := (0 : Int32)) (l := 0) (h := 0) (by decide) (by decide))) ?_
            refine tp_nl ?_
            refine tp_iff (d_nle (r_n (x := (1 : Int32)) (l := 1) (h := 1) (by decide) (by decide)) (r_n (x := (0 : Int32)) (l := 0) (h := 0) (by decide) (by decide)) (by decide)) ?_
            refine tp_e (f_X12_denied.eq_1 _ _) ?_
            refine tp_nn ?_
            refine tp_e (f_X12_refused.eq_1 _ _) ?_
            refine tp_nl ?_
            refine tp_nl ?_
            exact tp_s ⟨(r_w (l' := 0) (h' := 1) (r_n (x := (0 : Int32)) (l := 0) (h := 0) (by decide) (by decide)) (by decide) (by decide)), (r_n (x := (0 : Int32)) (l := 0) (h := 0) (by decide) (by decide)), (r_w (l' := 0) (h' := 5) (r_n (x := (1 : Int32)) (l := 1) (h := 1) (by decide) (by decide)) (by decide) (by decide)), (r_n (x := (-1 : Int32)) (l := -1) (h := -1) (by decide) (by decide)), h_m_h_2_2_1, h_m_h_2_2_2⟩
          · skip
            have r15 : R32 (0) (2147483647) k4 := r_nlt1 (r_top _) (r_n (x := (0 : Int32)) (l := 0) (h := 0) (by decide) (by decide)) c13
            refine tp_nif (fun c16 => ?_) (fun c16 => ?_)
            · skip
              have r17 : R32 (1) (2147483647) k4 := r_lt2 (by decide) (r_sub (l := 0) (h := 3) h_q_q_2_2_2_2_1 (r_n (x := (1 : Int32)) (l := 1) (h := 1) (by decide) (by decide)) (by decide) (by decide) (by decide) (by decide)) r15 c16
              refine tp_nl ?_
              refine tp_nift (d_eq (r_n (x := (0 : Int32)) (l := 0) (h := 0) (by decide) (by decide)) (r_n (x := (0 : Int32)) (l := 0) (h := 0) (by decide) (by decide))) ?_
              refine tp_nl ?_
              refine tp_iff (d_nle (r_n (x := (1 : Int32)) (l := 1) (h := 1) (by decide) (by decide)) (r_n (x := (0 : Int32)) (l := 0) (h := 0) (by decide) (by decide)) (by decide)) ?_
              refine tp_e (f_X12_denied.eq_1 _ _) ?_
              refine tp_nn ?_
              refine tp_e (f_X12_refused.eq_1 _ _) ?_
              refine tp_nl ?_
              refine tp_nl ?_
              exact tp_s ⟨(r_w (l' := 0) (h' := 1) (r_n (x := (0 : Int32)) (l := 0) (h := 0) (by decide) (by decide)) (by decide) (by decide)), (r_n (x := (0 : Int32)) (l := 0) (h := 0) (by decide) (by decide)), (r_w (l' := 0) (h' := 5) (r_n (x := (1 : Int32)) (l := 1) (h := 1) (by decide) (by decide)) (by decide) (by decide)), (r_n (x := (-1 : Int32)) (l := -1) (h := -1) (by decide) (by decide)), h_m_h_2_2_1, h_m_h_2_2_2⟩
            · skip
              have r18 : R32 (0) (3) k4 := r_nlt2 (r_sub (l := 0) (h := 3) h_q_q_2_2_2_2_1 (r_n (x := (1 : Int32)) (l := 1) (h := 1) (by decide) (by decide)) (by decide) (by decide) (by decide) (by decide)) r15 c16
              refine tp_nl ?_
              refine tp_niff (d_ne2 (r_n (x := (1 : Int32)) (l := 1) (h := 1) (by decide) (by decide)) (r_n (x := (0 : Int32)) (l := 0) (h := 0) (by decide) (by decide)) (by decide)) ?_
              refine tp_nn ?_
              refine tp_e (f_X12_in.eq_1 _ _ _) ?_
              refine tp_nif (fun c19 => ?_) (fun c19 => ?_)
              · skip
                have r20 : R32 (-2147483648) (0) k3 := r_lt1 (by decide) (r_top _) (r_n (x := (1 : Int32)) (l := 1) (h := 1) (by decide) (by decide)) c19
                refine tp_nl ?_
                refine tp_nift (d_eq (r_n (x := (0 : Int32)) (l := 0) (h := 0) (by decide) (by decide)) (r_n (x := (0 : Int32)) (l := 0) (h := 0) (by decide) (by decide))) ?_
                refine tp_nl ?_
                refine tp_iff (d_nle (r_n (x := (2 : Int32)) (l := 2) (h := 2) (by decide) (by decide)) (r_n (x := (0 : Int32)) (l := 0) (h := 0) (by decide) (by decide)) (by decide)) ?_
                refine tp_e (f_X12_denied.eq_1 _ _) ?_
                refine tp_nn ?_
                refine tp_e (f_X12_refused.eq_1 _ _) ?_
                refine tp_nl ?_
                refine tp_nl ?_
                exact tp_s ⟨(r_w (l' := 0) (h' := 1) (r_n (x := (0 : Int32)) (l := 0) (h := 0) (by decide) (by decide)) (by decide) (by decide)), (r_n (x := (0 : Int32)) (l := 0) (h := 0) (by decide) (by decide)), (r_w (l' := 0) (h' := 5) (r_n (x := (2 : Int32)) (l := 2) (h := 2) (by decide) (by decide)) (by decide) (by decide)), (r_n (x := (-1 : Int32)) (l := -1) (h := -1) (by decide) (by decide)), h_m_h_2_2_1, h_m_h_2_2_2⟩
              · skip
                have r21 : R32 (1) (2147483647) k3 := r_nlt1 (r_top _) (r_n (x := (1 : Int32)) (l := 1) (h := 1) (by decide) (by decide)) c19
                refine tp_nif (fun c22 => ?_) (fun c22 => ?_)
                · skip
                  have r23 : R32 (2) (2147483647) k3 := r_lt2 (by decide) h_q_q_2_1 r21 c22
                  refine tp_nl ?_
                  refine tp_nift (d_eq (r_n (x := (0 : Int32)) (l := 0) (h := 0) (by decide) (by decide)) (r_n (x := (0 : Int32)) (l := 0) (h := 0) (by decide) (by decide))) ?_
                  refine tp_nl ?_
                  refine tp_iff (d_nle (r_n (x := (2 : Int32)) (l := 2) (h := 2) (by decide) (by decide)) (r_n (x := (0 : Int32)) (l := 0) (h := 0) (by decide) (by decide)) (by decide)) ?_
                  refine tp_e (f_X12_denied.eq_1 _ _) ?_
                  refine tp_nn ?_
                  refine tp_e (f_X12_refused.eq_1 _ _) ?_
                  refine tp_nl ?_
                  refine tp_nl ?_
                  exact tp_s ⟨(r_w (l' := 0) (h' := 1) (r_n (x := (0 : Int32)) (l := 0) (h := 0) (by decide) (by decide)) (by decide) (by decide)), (r_n (x := (0 : Int32)) (l := 0) (h := 0) (by decide) (by decide)), (r_w (l' := 0) (h' := 5) (r_n (x := (2 : Int32)) (l := 2) (h := 2) (by decide) (by decide)) (by decide) (by decide)), (r_n (x := (-1 : Int32)) (l := -1) (h := -1) (by decide) (by decide)), h_m_h_2_2_1, h_m_h_2_2_2⟩
                · skip
                  have r24 : R32 (1) (9) k3 := r_nlt2 h_q_q_2_1 r21 c22
                  refine tp_nl ?_
                  refine tp_niff (d_ne2 (r_n (x := (1 : Int32)) (l := 1) (h := 1) (by decide) (by decide)) (r_n (x := (0 : Int32)) (l := 0) (h := 0) (by decide) (by decide)) (by decide)) ?_
                  refine tp_nl ?_
                  refine tp_ift (d_le (r_n (x := (0 : Int32)) (l := 0) (h := 0) (by decide) (by decide)) (r_n (x := (0 : Int32)) (l := 0) (h := 0) (by decide) (by decide)) (by decide)) ?_
                  refine tp_g (r_add (l := 18) (h := 22) (r_n (x := (18 : Int32)) (l := 18) (h := 18) (by decide) (by decide)) r6 (by decide) (by decide) (by decide) (by decide)) (by decide) (by decide) ?_
                  refine tp_if (fun c25 => ?_) (fun c25 => ?_)
                  · skip
                    have r26 : R32 (-2) (-2) (m_v (((18 : Int32) + k1)).toNatClampNeg) := r_eq1 (l := -2) (h := -2) (by decide) (by decide) (r_top _) (r_n (x := (-2 : Int32)) (l := -2) (h := -2) (by decide) (by decide)) c25
                    refine tp_e (f_X11_isClose.eq_1 _ _) ?_
                    refine tp_nif (fun c27 => ?_) (fun c27 => ?_)
                    · skip
                      have r28 : R32 (-2147483648) (2147483646) (m_v ((23 : Int32)).toNatClampNeg) := r_lt1 (by decide) (r_top _) (r_top _) c27
                      have r29 : R32 (-2147483647) (2147483647) q_q.2.2.1 := r_lt2 (by decide) (r_top _) (r_top _) c27
                      refine tp_nl ?_
                      refine tp_ift (d_eq (r_n (x := (0 : Int32)) (l := 0) (h := 0) (by decide) (by decide)) (r_n (x := (0 : Int32)) (l := 0) (h := 0) (by decide) (by decide))) ?_
                      refine tp_b (t_f_X12_remembers h_m_h_2_2_1 h_m_h_2_2_2) (fun o70 h30 => ?_)
                      obtain ⟨r31, r32⟩ := h30
                      refine tp_e (f_X12_question.eq_1 _ _ _ _) ?_
                      refine tp_nn ?_
                      refine tp_n (P := fun z => R32 (0) (287) z) (r_add (l := 0) (h := 287) (r_mul (l := 0) (h := 284) (r_sub (l := 0) (h := 71) (r_add (l := 1) (h := 72) (r_mul (l := 0) (h := 63) r12 h_q_q_2_1 (by decide) (by decide) (by decide) (by decide) (by decide)) r24 (by decide) (by decide) (by decide) (by decide)) (r_n (x := (1 : Int32)) (l := 1) (h := 1) (by decide) (by decide)) (by decide) (by decide) (by decide) (by decide)) h_q_q_2_2_2_2_1 (by decide) (by decide) (by decide) (by decide) (by decide)) r18 (by decide) (by decide) (by decide) (by decide)) (fun z22 h33 => ?_)
                      refine tp_nl ?_
                      refine tp_g (r_add (l := 18) (h := 22) (r_n (x := (18 : Int32)) (l := 18) (h := 18) (by decide) (by decide)) r6 (by decide) (by decide) (by decide) (by decide)) (by decide) (by decide) ?_
                      refine tp_e (f_X12_granted.eq_1 _) ?_
                      refine tp_nn ?_
                      refine tp_e (f_X12_good.eq_1 _ _) ?_
                      refine tp_nl ?_
                      refine tp_nl ?_
                      exact tp_s ⟨(r_w (l' := 0) (h' := 1) (r_n (x := (1 : Int32)) (l := 1) (h := 1) (by decide) (by decide)) (by decide) (by decide)), (r_n (x := (0 : Int32)) (l := 0) (h := 0) (by decide) (by decide)), (r_w (l' := 0) (h' := 5) (r_n (x := (0 : Int32)) (l := 0) (h := 0) (by decide) (by decide)) (by decide) (by decide)), (r_n (x := (-1 : Int32)) (l := -1) (h := -1) (by decide) (by decide)), (r_w (l' := 0) (h' := 16) r31 (by decide) (by decide)), r32⟩
                    · skip
                      refine tp_nif (fun c34 => ?_) (fun c34 => ?_)
                      · skip
                        have r35 : R32 (-2147483648) (2147483646) q_q.2.2.2.1 := r_lt1 (by decide) (r_top _) (r_top _) c34
                        have r36 : R32 (-2147483647) (2147483647) (m_v ((23 : Int32)).toNatClampNeg) := r_lt2 (by decide) (r_top _) (r_top _) c34
                        refine tp_nl ?_
                        refine tp_ift (d_eq (r_n (x := (0 : Int32)) (l := 0) (h := 0) (by decide) (by decide)) (r_n (x := (0 : Int32)) (l := 0) (h := 0) (by decide) (by decide))) ?_
                        refine tp_b (t_f_X12_remembers h_m_h_2_2_1 h_m_h_2_2_2) (fun o70 h37 => ?_)
                        obtain ⟨r38, r39⟩ := h37
                        refine tp_e (f_X12_question.eq_1 _ _ _ _) ?_
                        refine tp_nn ?_
                        refine tp_n (P := fun z => R32 (0) (287) z) (r_add (l := 0) (h := 287) (r_mul (l := 0) (h := 284) (r_sub (l := 0) (h := 71) (r_add (l := 1) (h := 72) (r_mul (l := 0) (h := 63) r12 h_q_q_2_1 (by decide) (by decide) (by decide) (by decide) (by decide)) r24 (by decide) (by decide) (by decide) (by decide)) (r_n (x := (1 : Int32)) (l := 1) (h := 1) (by decide) (by decide)) (by decide) (by decide) (by decide) (by decide)) h_q_q_2_2_2_2_1 (by decide) (by decide) (by decide) (by decide) (by decide)) r18 (by decide) (by decide) (by decide) (by decide)) (fun z22_40 h41 => ?_)
                        refine tp_nl ?_
                        refine tp_g (r_add (l := 18) (h := 22) (r_n (x := (18 : Int32)) (l := 18) (h := 18) (by decide) (by decide)) r6 (by decide) (by decide) (by decide) (by decide)) (by decide) (by decide) ?_
                        refine tp_e (f_X12_granted.eq_1 _) ?_
                        refine tp_nn ?_
                        refine tp_e (f_X12_good.eq_1 _ _) ?_
                        refine tp_nl ?_
                        refine tp_nl ?_
                        exact tp_s ⟨(r_w (l' := 0) (h' := 1) (r_n (x := (1 : Int32)) (l := 1) (h := 1) (by decide) (by decide)) (by decide) (by decide)), (r_n (x := (0 : Int32)) (l := 0) (h := 0) (by decide) (by decide)), (r_w (l' := 0) (h' := 5) (r_n (x := (0 : Int32)) (l := 0) (h := 0) (by decide) (by decide)) (by decide) (by decide)), (r_n (x := (-1 : Int32)) (l := -1) (h := -1) (by decide) (by decide)), (r_w (l' := 0) (h' := 16) r38 (by decide) (by decide)), r39⟩
                      · skip
                        refine tp_nl ?_
                        refine tp_iff (d_ne2 (r_n (x := (1 : Int32)) (l := 1) (h := 1) (by decide) (by decide)) (r_n (x := (0 : Int32)) (l := 0) (h := 0) (by decide) (by decide)) (by decide)) ?_
                        exact t_f_X12_let_J63 h_m_h_2_2_1 h_m_h_2_2_2
                  · skip
                    exact t_f_X12_let_J63 h_m_h_2_2_1 h_m_h_2_2_2
theorem t_f_X12_drawIn {k1 : Int32} {m_t : TX12_t} {m_v : TX12_v} {m_h : TX12_h} {q_q : TX11_q} (h_m_h_2_2_1 : R32 (0) (16) m_h.2.2.1) (h_m_h_2_2_2 : R32 (0) (3) m_h.2.2.2) (h_q_q_1 : R32 (2) (8) q_q.1) (h_q_q_2_1 : R32 (1) (9) q_q.2.1) (h_q_q_2_2_2_2_1 : R32 (1) (4) q_q.2.2.2.2.1) (h_q_q_2_2_2_2_2_1 : R32 (0) (5) q_q.2.2.2.2.2.1) (h_q_q_2_2_2_2_2_2_1 : R32 (0) (6) q_q.2.2.2.2.2.2.1) (h_q_q_2_2_2_2_2_2_2_1 : R32 (0) (6) q_q.2.2.2.2.2.2.2.1) : TotP (f_X12_drawIn k1 m_t m_v m_h q_q) (fun (r : Int32 × TX12_t × TX12_v × TX12_h) => R32 (0) (1) r.1 ∧ R32 (0) (0) r.2.1.1 ∧ R32 (0) (5) r.2.1.2.1 ∧ R32 (-1) (-1) r.2.1.2.2 ∧ R32 (0) (16) r.2.2.2.2.2.1 ∧ R32 (0) (3) r.2.2.2.2.2.2) := by
  unfold f_X12_drawIn
  refine tp_e (f_X12_isAsker.eq_1 _ _) ?_
  refine tp_nif (fun c1 => ?_) (fun c1 => ?_)
  · skip
    have r2 : R32 (-2147483648) (-1) k1 := r_lt1 (by decide) (r_top _) (r_n (x := (0 : Int32)) (l := 0) (h := 0) (by decide) (by decide)) c1
    refine tp_nl ?_
    refine tp_ift (d_eq (r_n (x := (0 : Int32)) (l := 0) (h := 0) (by decide) (by decide)) (r_n (x := (0 : Int32)) (l := 0) (h := 0) (by decide) (by decide))) ?_
    refine tp_e (f_X12_denied.eq_1 _ _) ?_
    refine tp_nn ?_
    refine tp_e (f_X12_refused.eq_1 _ _) ?_
    refine tp_nl ?_
    refine tp_nl ?_
    exact tp_s ⟨(r_w (l' := 0) (h' := 1) (r_n (x := (0 : Int32)) (l := 0) (h := 0) (by decide) (by decide)) (by decide) (by decide)), (r_n (x := (0 : Int32)) (l := 0) (h := 0) (by decide) (by decide)), (r_w (l' := 0) (h' := 5) (r_n (x := (1 : Int32)) (l := 1) (h := 1) (by decide) (by decide)) (by decide) (by decide)), (r_n (x := (-1 : Int32)) (l := -1) (h := -1) (by decide) (by decide)), h_m_h_2_2_1, h_m_h_2_2_2⟩
  · skip
    have r3 : R32 (0) (2147483647) k1 := r_nlt1 (r_top _) (r_n (x := (0 : Int32)) (l := 0) (h := 0) (by decide) (by decide)) c1
    refine tp_nif (fun c4 => ?_) (fun c4 => ?_)
    · skip
      refine tp_nl ?_
      refine tp_ift (d_eq (r_n (x := (0 : Int32)) (l := 0) (h := 0) (by decide) (by decide)) (r_n (x := (0 : Int32)) (l := 0) (h := 0) (by decide) (by decide))) ?_
      refine tp_e (f_X12_denied.eq_1 _ _) ?_
      refine tp_nn ?_
      refine tp_e (f_X12_refused.eq_1 _ _) ?_
      refine tp_nl ?_
      refine tp_nl ?_
      exact tp_s ⟨(r_w (l' := 0) (h' := 1) (r_n (x := (0 : Int32)) (l := 0) (h := 0) (by decide) (by decide)) (by decide) (by decide)), (r_n (x := (0 : Int32)) (l := 0) (h := 0) (by decide) (by decide)), (r_w (l' := 0) (h' := 5) (r_n (x := (1 : Int32)) (l := 1) (h := 1) (by decide) (by decide)) (by decide) (by decide)), (r_n (x := (-1 : Int32)) (l := -1) (h := -1) (by decide) (by decide)), h_m_h_2_2_1, h_m_h_2_2_2⟩
    · skip
      have r5 : R32 (1) (5) q_q.2.2.2.2.2.1 := r_nle1 (by decide) h_q_q_2_2_2_2_2_1 r3 c4
      have r6 : R32 (0) (4) k1 := r_nle2 (by decide) h_q_q_2_2_2_2_2_1 r3 c4
      refine tp_nl ?_
      refine tp_iff (d_ne2 (r_n (x := (1 : Int32)) (l := 1) (h := 1) (by decide) (by decide)) (r_n (x := (0 : Int32)) (l := 0) (h := 0) (by decide) (by decide)) (by decide)) ?_
      refine tp_g (r_add (l := 18) (h := 22) (r_n (x := (18 : Int32)) (l := 18) (h := 18) (by decide) (by decide)) r6 (by decide) (by decide) (by decide) (by decide)) (by decide) (by decide) ?_
      refine tp_if (fun c7 => ?_) (fun c7 => ?_)
      · skip
        have r8 : R32 (-2) (-2) (m_v (((18 : Int32) + k1)).toNatClampNeg) := r_eq1 (l := -2) (h := -2) (by decide) (by decide) (r_top _) (r_n (x := (-2 : Int32)) (l := -2) (h := -2) (by decide) (by decide)) c7
        refine tp_e (f_X12_denied.eq_1 _ _) ?_
        refine tp_nn ?_
        refine tp_e (f_X12_refused.eq_1 _ _) ?_
        refine tp_nl ?_
        refine tp_nl ?_
        exact tp_s ⟨(r_w (l' := 0) (h' := 1) (r_n (x := (0 : Int32)) (l := 0) (h := 0) (by decide) (by decide)) (by decide) (by decide)), (r_n (x := (0 : Int32)) (l := 0) (h := 0) (by decide) (by decide)), (r_w (l' := 0) (h' := 5) (r_n (x := (5 : Int32)) (l := 5) (h := 5) (by decide) (by decide)) (by decide) (by decide)), (r_n (x := (-1 : Int32)) (l := -1) (h := -1) (by decide) (by decide)), h_m_h_2_2_1, h_m_h_2_2_2⟩
      · skip
        refine tp_b (t_f_X12_remembers h_m_h_2_2_1 h_m_h_2_2_2) (fun o40 h9 => ?_)
        obtain ⟨r10, r11⟩ := h9
        refine tp_g (r_add (l := 18) (h := 22) (r_n (x := (18 : Int32)) (l := 18) (h := 18) (by decide) (by decide)) r6 (by decide) (by decide) (by decide) (by decide)) (by decide) (by decide) ?_
        refine tp_e (f_X12_granted.eq_1 _) ?_
        refine tp_nn ?_
        refine tp_e (f_X12_good.eq_1 _ _) ?_
        refine tp_nl ?_
        refine tp_nl ?_
        exact tp_s ⟨(r_w (l' := 0) (h' := 1) (r_n (x := (1 : Int32)) (l := 1) (h := 1) (by decide) (by decide)) (by decide) (by decide)), (r_n (x := (0 : Int32)) (l := 0) (h := 0) (by decide) (by decide)), (r_w (l' := 0) (h' := 5) (r_n (x := (0 : Int32)) (l := 0) (h := 0) (by decide) (by decide)) (by decide) (by decide)), (r_n (x := (-1 : Int32)) (l := -1) (h := -1) (by decide) (by decide)), (r_w (l' := 0) (h' := 16) r10 (by decide) (by decide)), r11⟩
theorem t_f_X12_keeps {k1 : Int32} {k2 : Int32} {k3 : Int32} {q_q : TX11_q} (h_k1 : R32 (0) (5) k1) (h_q_q_1 : R32 (2) (8) q_q.1) (h_q_q_2_1 : R32 (1) (9) q_q.2.1) (h_q_q_2_2_2_2_1 : R32 (1) (4) q_q.2.2.2.2.1) (h_q_q_2_2_2_2_2_1 : R32 (0) (5) q_q.2.2.2.2.2.1) (h_q_q_2_2_2_2_2_2_1 : R32 (1) (6) q_q.2.2.2.2.2.2.1) (h_q_q_2_2_2_2_2_2_2_1 : R32 (0) (6) q_q.2.2.2.2.2.2.2.1) : TotP (f_X12_keeps k1 k2 k3 q_q) (fun (r : Int32) => True) := by
  unfold f_X12_keeps
  refine tp_g h_k1 (by decide) (by decide) ?_
  refine tp_if (fun c1 => ?_) (fun c1 => ?_)
  · skip
    have r2 : R32 (1) (1) (q_q.2.2.2.2.2.2.2.2.2.2.2.1 (k1).toNatClampNeg) := r_eq1 (l := 1) (h := 1) (by decide) (by decide) (r_top _) (r_n (x := (1 : Int32)) (l := 1) (h := 1) (by decide) (by decide)) c1
    refine tp_g h_k1 (by decide) (by decide) ?_
    exact tp_s trivial
  · skip
    refine tp_if (fun c3 => ?_) (fun c3 => ?_)
    · skip
      have r4 : R32 (3) (3) (q_q.2.2.2.2.2.2.2.2.2.2.2.1 (k1).toNatClampNeg) := r_eq1 (l := 3) (h := 3) (by decide) (by decide) (r_top _) (r_n (x := (3 : Int32)) (l := 3) (h := 3) (by decide) (by decide)) c3
      refine tp_g h_k1 (by decide) (by decide) ?_
      refine tp_n0 (fun z61 => ?_)
      refine tp_if (fun c5 => ?_) (fun c5 => ?_)
      · skip
        have r6 : R32 (99) (2147483647) z61 := r_le2 (r_n (x := (99 : Int32)) (l := 99) (h := 99) (by decide) (by decide)) (r_top _) c5
        exact tp_s trivial
      · skip
        have r7 : R32 (-2147483648) (98) z61 := r_nle2 (by decide) (r_n (x := (99 : Int32)) (l := 99) (h := 99) (by decide) (by decide)) (r_top _) c5
        refine tp_g h_k1 (by decide) (by decide) ?_
        refine tp_n0 (fun z78 => ?_)
        exact tp_s trivial
    · skip
      refine tp_g h_k1 (by decide) (by decide) ?_
      refine tp_if (fun c8 => ?_) (fun c8 => ?_)
      · skip
        exact tp_s trivial
      · skip
        have r9 : R32 (-2147483647) (2147483647) (q_q.2.2.2.2.2.2.2.2.2.2.2.2.2.2.2.2.1 (k1).toNatClampNeg) := r_nle1 (by decide) (r_top _) (r_top _) c8
        have r10 : R32 (-2147483648) (2147483646) ((5 : Int32) * (k3 - k2)) := r_nle2 (by decide) (r_top _) (r_top _) c8
        refine tp_g h_k1 (by decide) (by decide) ?_
        refine tp_n0 (fun z114 => ?_)
        exact tp_s trivial
theorem t_f_X12_worthNow {k1 : Int32} {m_v : TX12_v} {q_q : TX11_q} (h_k1 : R32 (0) (5) k1) (h_q_q_1 : R32 (2) (8) q_q.1) (h_q_q_2_1 : R32 (1) (9) q_q.2.1) (h_q_q_2_2_2_2_1 : R32 (1) (4) q_q.2.2.2.2.1) (h_q_q_2_2_2_2_2_1 : R32 (0) (5) q_q.2.2.2.2.2.1) (h_q_q_2_2_2_2_2_2_1 : R32 (1) (6) q_q.2.2.2.2.2.2.1) (h_q_q_2_2_2_2_2_2_2_1 : R32 (0) (6) q_q.2.2.2.2.2.2.2.1) : TotP (f_X12_worthNow k1 m_v q_q) (fun (r : Int32) => True) := by
  unfold f_X12_worthNow
  refine tp_g (r_add (l := 6) (h := 11) (r_n (x := (6 : Int32)) (l := 6) (h := 6) (by decide) (by decide)) h_k1 (by decide) (by decide) (by decide) (by decide)) (by decide) (by decide) ?_
  refine tp_b (t_f_X12_keeps h_k1 h_q_q_1 h_q_q_2_1 h_q_q_2_2_2_2_1 h_q_q_2_2_2_2_2_1 h_q_q_2_2_2_2_2_2_1 h_q_q_2_2_2_2_2_2_2_1) (fun o18 h1 => ?_)
  exact tp_s trivial
theorem t_f_X12_sell {k1 : Int32} {m_t : TX12_t} {m_v : TX12_v} {m_h : TX12_h} {q_q : TX11_q} (h_m_h_2_2_1 : R32 (0) (16) m_h.2.2.1) (h_m_h_2_2_2 : R32 (0) (3) m_h.2.2.2) (h_q_q_1 : R32 (2) (8) q_q.1) (h_q_q_2_1 : R32 (1) (9) q_q.2.1) (h_q_q_2_2_2_2_1 : R32 (1) (4) q_q.2.2.2.2.1) (h_q_q_2_2_2_2_2_1 : R32 (0) (5) q_q.2.2.2.2.2.1) (h_q_q_2_2_2_2_2_2_1 : R32 (0) (6) q_q.2.2.2.2.2.2.1) (h_q_q_2_2_2_2_2_2_2_1 : R32 (0) (6) q_q.2.2.2.2.2.2.2.1) : TotP (f_X12_sell k1 m_t m_v m_h q_q) (fun (r : Int32 × TX12_t × TX12_v × TX12_h) => R32 (0) (0) r.2.1.1 ∧ R32 (0) (5) r.2.1.2.1 ∧ R32 (-1) (-1) r.2.1.2.2 ∧ R32 (0) (16) r.2.2.2.2.2.1 ∧ R32 (0) (3) r.2.2.2.2.2.2) := by
  unfold f_X12_sell
  refine tp_e (f_X12_isAnswer.eq_1 _ _) ?_
  refine tp_nif (fun c1 => ?_) (fun c1 => ?_)
  · skip
    have r2 : R32 (-2147483648) (-1) k1 := r_lt1 (by decide) (r_top _) (r_n (x := (0 : Int32)) (l := 0) (h := 0) (by decide) (by decide)) c1
    refine tp_nl ?_
    refine tp_ift (d_eq (r_n (x := (0 : Int32)) (l := 0) (h := 0) (by decide) (by decide)) (r_n (x := (0 : Int32)) (l := 0) (h := 0) (by decide) (by decide))) ?_
    refine tp_e (f_X12_refused.eq_1 _ _) ?_
    refine tp_nl ?_
    exact tp_s ⟨(r_n (x := (0 : Int32)) (l := 0) (h := 0) (by decide) (by decide)), (r_w (l' := 0) (h' := 5) (r_n (x := (1 : Int32)) (l := 1) (h := 1) (by decide) (by decide)) (by decide) (by decide)), (r_n (x := (-1 : Int32)) (l := -1) (h := -1) (by decide) (by decide)), h_m_h_2_2_1, h_m_h_2_2_2⟩
  · skip
    have r3 : R32 (0) (2147483647) k1 := r_nlt1 (r_top _) (r_n (x := (0 : Int32)) (l := 0) (h := 0) (by decide) (by decide)) c1
    refine tp_nif (fun c4 => ?_) (fun c4 => ?_)
    · skip
      refine tp_nl ?_
      refine tp_ift (d_eq (r_n (x := (0 : Int32)) (l := 0) (h := 0) (by decide) (by decide)) (r_n (x := (0 : Int32)) (l := 0) (h := 0) (by decide) (by decide))) ?_
      refine tp_e (f_X12_refused.eq_1 _ _) ?_
      refine tp_nl ?_
      exact tp_s ⟨(r_n (x := (0 : Int32)) (l := 0) (h := 0) (by decide) (by decide)), (r_w (l' := 0) (h' := 5) (r_n (x := (1 : Int32)) (l := 1) (h := 1) (by decide) (by decide)) (by decide) (by decide)), (r_n (x := (-1 : Int32)) (l := -1) (h := -1) (by decide) (by decide)), h_m_h_2_2_1, h_m_h_2_2_2⟩
    · skip
      have r5 : R32 (1) (6) q_q.2.2.2.2.2.2.1 := r_nle1 (by decide) h_q_q_2_2_2_2_2_2_1 r3 c4
      have r6 : R32 (0) (5) k1 := r_nle2 (by decide) h_q_q_2_2_2_2_2_2_1 r3 c4
      refine tp_nl ?_
      refine tp_iff (d_ne2 (r_n (x := (1 : Int32)) (l := 1) (h := 1) (by decide) (by decide)) (r_n (x := (0 : Int32)) (l := 0) (h := 0) (by decide) (by decide)) (by decide)) ?_
      refine tp_g (r_add (l := 0) (h := 5) (r_n (x := (0 : Int32)) (l := 0) (h := 0) (by decide) (by decide)) r6 (by decide) (by decide) (by decide) (by decide)) (by decide) (by decide) ?_
      refine tp_if (fun c7 => ?_) (fun c7 => ?_)
      · skip
        have r8 : R32 (1) (1) (m_v (((0 : Int32) + k1)).toNatClampNeg) := r_eq1 (l := 1) (h := 1) (by decide) (by decide) (r_top _) (r_n (x := (1 : Int32)) (l := 1) (h := 1) (by decide) (by decide)) c7
        refine tp_b (t_f_X12_remembers h_m_h_2_2_1 h_m_h_2_2_2) (fun o38 h9 => ?_)
        obtain ⟨r10, r11⟩ := h9
        refine tp_g (r_add (l := 0) (h := 5) (r_n (x := (0 : Int32)) (l := 0) (h := 0) (by decide) (by decide)) r6 (by decide) (by decide) (by decide) (by decide)) (by decide) (by decide) ?_
        refine tp_n0 (fun z57 => ?_)
        refine tp_b (t_f_X12_worthNow r6 h_q_q_1 h_q_q_2_1 h_q_q_2_2_2_2_1 h_q_q_2_2_2_2_2_1 r5 h_q_q_2_2_2_2_2_2_2_1) (fun o60 h12 => ?_)
        refine tp_b (t_f_X12_worthNow r6 h_q_q_1 h_q_q_2_1 h_q_q_2_2_2_2_1 h_q_q_2_2_2_2_2_1 r5 h_q_q_2_2_2_2_2_2_2_1) (fun o68 h13 => ?_)
        refine tp_e (f_X12_good.eq_1 _ _) ?_
        refine tp_nl ?_
        exact tp_s ⟨(r_n (x := (0 : Int32)) (l := 0) (h := 0) (by decide) (by decide)), (r_w (l' := 0) (h' := 5) (r_n (x := (0 : Int32)) (l := 0) (h := 0) (by decide) (by decide)) (by decide) (by decide)), (r_n (x := (-1 : Int32)) (l := -1) (h := -1) (by decide) (by decide)), (r_w (l' := 0) (h' := 16) r10 (by decide) (by decide)), r11⟩
      · skip
        refine tp_e (f_X12_refused.eq_1 _ _) ?_
        refine tp_nl ?_
        exact tp_s ⟨(r_n (x := (0 : Int32)) (l := 0) (h := 0) (by decide) (by decide)), (r_w (l' := 0) (h' := 5) (r_n (x := (5 : Int32)) (l := 5) (h := 5) (by decide) (by decide)) (by decide) (by decide)), (r_n (x := (-1 : Int32)) (l := -1) (h := -1) (by decide) (by decide)), h_m_h_2_2_1, h_m_h_2_2_2⟩
theorem t_f_X12_spotOf {k1 : Int32} {q_q : TX11_q} (h_q_q_1 : R32 (2) (8) q_q.1) (h_q_q_2_1 : R32 (1) (9) q_q.2.1) (h_q_q_2_2_2_2_1 : R32 (1) (4) q_q.2.2.2.2.1) (h_q_q_2_2_2_2_2_1 : R32 (0) (5) q_q.2.2.2.2.2.1) (h_q_q_2_2_2_2_2_2_1 : R32 (0) (6) q_q.2.2.2.2.2.2.1) (h_q_q_2_2_2_2_2_2_2_1 : R32 (0) (6) q_q.2.2.2.2.2.2.2.1) : TotP (f_X12_spotOf k1 q_q) (fun (r : Int32) => True) := by
  unfold f_X12_spotOf
  refine tp_zp h_q_q_2_2_2_2_1 (by decide) ?_
  refine tp_zp h_q_q_2_1 (by decide) ?_
  exact tp_s trivial
theorem t_f_X12_areTangled {k1 : Int32} {k2 : Int32} {k3 : Int32} {k4 : Int32} {q_q : TX11_q} (h_k1 : R32 (0) (4) k1) (h_k3 : R32 (0) (4) k3) (h_q_q_1 : R32 (2) (8) q_q.1) (h_q_q_2_1 : R32 (1) (9) q_q.2.1) (h_q_q_2_2_2_2_1 : R32 (1) (4) q_q.2.2.2.2.1) (h_q_q_2_2_2_2_2_1 : R32 (0) (5) q_q.2.2.2.2.2.1) (h_q_q_2_2_2_2_2_2_1 : R32 (0) (6) q_q.2.2.2.2.2.2.1) (h_q_q_2_2_2_2_2_2_2_1 : R32 (0) (6) q_q.2.2.2.2.2.2.2.1) : TotP (f_X12_areTangled k1 k2 k3 k4 q_q) (fun (r : Int32) => R32 (0) (1) r) := by
  unfold f_X12_areTangled
  refine tp_e (f_X12_apart.eq_1 _ _) ?_
  refine tp_nif (fun c1 => ?_) (fun c1 => ?_)
  · skip
    refine tp_n0 (fun o3 => ?_)
    refine tp_g h_k1 (by decide) (by decide) ?_
    refine tp_g h_k3 (by decide) (by decide) ?_
    refine tp_n0 (fun z24 => ?_)
    refine tp_if (fun c2 => ?_) (fun c2 => ?_)
    · skip
      have r3 : R32 (-2147483648) (2147483646) z24 := r_lt1 (by decide) (r_top _) (r_top _) c2
      have r4 : R32 (-2147483647) (2147483647) o3 := r_lt2 (by decide) (r_top _) (r_top _) c2
      exact tp_s (r_w (l' := 0) (h' := 1) (r_n (x := (0 : Int32)) (l := 0) (h := 0) (by decide) (by decide)) (by decide) (by decide))
    · skip
      exact tp_s (r_w (l' := 0) (h' := 1) (r_n (x := (1 : Int32)) (l := 1) (h := 1) (by decide) (by decide)) (by decide) (by decide))
  · skip
    have r5 : R32 (-2147483647) (2147483647) k4 := r_nle1 (by decide) (r_top _) (r_top _) c1
    have r6 : R32 (-2147483648) (2147483646) k2 := r_nle2 (by decide) (r_top _) (r_top _) c1
    refine tp_n0 (fun o3 => ?_)
    refine tp_g h_k1 (by decide) (by decide) ?_
    refine tp_g h_k3 (by decide) (by decide) ?_
    refine tp_n0 (fun z24 => ?_)
    refine tp_if (fun c7 => ?_) (fun c7 => ?_)
    · skip
      have r8 : R32 (-2147483648) (2147483646) z24 := r_lt1 (by decide) (r_top _) (r_top _) c7
      have r9 : R32 (-2147483647) (2147483647) o3 := r_lt2 (by decide) (r_top _) (r_top _) c7
      exact tp_s (r_w (l' := 0) (h' := 1) (r_n (x := (0 : Int32)) (l := 0) (h := 0) (by decide) (by decide)) (by decide) (by decide))
    · skip
      exact tp_s (r_w (l' := 0) (h' := 1) (r_n (x := (1 : Int32)) (l := 1) (h := 1) (by decide) (by decide)) (by decide) (by decide))
theorem t_f_X12_isTangled_J60 {k2_ : Int32 → Option Int32} {v2_l3 : Int32} {N2 : Nat} (hk2 : ∀ (v2_l3 : Int32), R32 (0) (5) v2_l3 → (5 : Int) - v2_l3.toInt < (N2 : Nat) → TotP (k2_ v2_l3) (fun (r : Int32) => R32 (0) (1) r)) (hm2 : (5 : Int) - v2_l3.toInt < ((N2 + 1 : Nat) : Int)) (h_v2_l3 : R32 (0) (4) v2_l3) : TotP (f_X12_isTangled_J60 k2_ v2_l3) (fun (r : Int32) => R32 (0) (1) r) := by
  unfold f_X12_isTangled_J60
  exact hk2 _ (r_w (l' := 0) (h' := 5) (r_add (l := 1) (h := 5) h_v2_l3 (r_n (x := (1 : Int32)) (l := 1) (h := 1) (by decide) (by decide)) (by decide) (by decide) (by decide) (by decide)) (by decide) (by decide)) (ms_up (y := (1 : Int32)) h_v2_l3 (by decide) (by decide) (by decide) hm2)
theorem t_f_X12_isTangled_L2 {k2 : Int32} {m_v : TX12_v} {q_q : TX11_q} (h_k2 : R32 (0) (4) k2) (h_q_q_1 : R32 (2) (8) q_q.1) (h_q_q_2_1 : R32 (1) (9) q_q.2.1) (h_q_q_2_2_2_2_1 : R32 (1) (4) q_q.2.2.2.2.1) (h_q_q_2_2_2_2_2_1 : R32 (1) (5) q_q.2.2.2.2.2.1) (h_q_q_2_2_2_2_2_2_1 : R32 (0) (6) q_q.2.2.2.2.2.2.1) (h_q_q_2_2_2_2_2_2_2_1 : R32 (0) (6) q_q.2.2.2.2.2.2.2.1) : ∀ (n : Nat) (v2_l3 : Int32), R32 (0) (5) v2_l3 → (5 : Int) - v2_l3.toInt < (n : Int) → TotP (f_X12_isTangled_L2 k2 m_v q_q n v2_l3) (fun (r : Int32) => R32 (0) (1) r) := by
  intro n
  induction n with
  | zero =>
    intro v2_l3 h_v2_l3 hm
    exact (ms_0u h_v2_l3 hm).elim
  | succ n ih =>
    intro v2_l3 h_v2_l3 hm
    rw [f_X12_isTangled_L2]
    refine tp_if (fun c1 => ?_) (fun c1 => ?_)
    · skip
      have r2 : R32 (1) (5) v2_l3 := r_le2 h_q_q_2_2_2_2_2_1 h_v2_l3 c1
      exact tp_s (r_w (l' := 0) (h' := 1) (r_n (x := (0 : Int32)) (l := 0) (h := 0) (by decide) (by decide)) (by decide) (by decide))
    · skip
      have r3 : R32 (0) (4) v2_l3 := r_nle2 (by decide) h_q_q_2_2_2_2_2_1 h_v2_l3 c1
      refine tp_if (fun c4 => ?_) (fun c4 => ?_)
      · skip
        exact t_f_X12_isTangled_J60 ih hm r3
      · skip
        refine tp_g (r_add (l := 18) (h := 22) (r_n (x := (18 : Int32)) (l := 18) (h := 18) (by decide) (by decide)) r3 (by decide) (by decide) (by decide) (by decide)) (by decide) (by decide) ?_
        refine tp_if (fun c5 => ?_) (fun c5 => ?_)
        · skip
          have r6 : R32 (-2) (-2) (m_v (((18 : Int32) + v2_l3)).toNatClampNeg) := r_eq1 (l := -2) (h := -2) (by decide) (by decide) (r_top _) (r_n (x := (-2 : Int32)) (l := -2) (h := -2) (by decide) (by decide)) c5
          exact t_f_X12_isTangled_J60 ih hm r3
        · skip
          refine tp_g (r_add (l := 18) (h := 22) (r_n (x := (18 : Int32)) (l := 18) (h := 18) (by decide) (by decide)) h_k2 (by decide) (by decide) (by decide) (by decide)) (by decide) (by decide) ?_
          refine tp_b (t_f_X12_spotOf h_q_q_1 h_q_q_2_1 h_q_q_2_2_2_2_1 (r_w (l' := 0) (h' := 5) h_q_q_2_2_2_2_2_1 (by decide) (by decide)) h_q_q_2_2_2_2_2_2_1 h_q_q_2_2_2_2_2_2_2_1) (fun o38 h7 => ?_)
          refine tp_g (r_add (l := 18) (h := 22) (r_n (x := (18 : Int32)) (l := 18) (h := 18) (by decide) (by decide)) r3 (by decide) (by decide) (by decide) (by decide)) (by decide) (by decide) ?_
          refine tp_b (t_f_X12_spotOf h_q_q_1 h_q_q_2_1 h_q_q_2_2_2_2_1 (r_w (l' := 0) (h' := 5) h_q_q_2_2_2_2_2_1 (by decide) (by decide)) h_q_q_2_2_2_2_2_2_1 h_q_q_2_2_2_2_2_2_2_1) (fun o49 h8 => ?_)
          refine tp_b (t_f_X12_areTangled h_k2 r3 h_q_q_1 h_q_q_2_1 h_q_q_2_2_2_2_1 (r_w (l' := 0) (h' := 5) h_q_q_2_2_2_2_2_1 (by decide) (by decide)) h_q_q_2_2_2_2_2_2_1 h_q_q_2_2_2_2_2_2_2_1) (fun o52 h9 => ?_)
          refine tp_if (fun c10 => ?_) (fun c10 => ?_)
          · skip
            have r11 : R32 (0) (0) o52 := r_eq1 (l := 0) (h := 0) (by decide) (by decide) h9 (r_n (x := (0 : Int32)) (l := 0) (h := 0) (by decide) (by decide)) c10
            exact t_f_X12_isTangled_J60 ih hm r3
          · skip
            have r12 : R32 (1) (1) o52 := r_neL (by decide) h9 (r_n (x := (0 : Int32)) (l := 0) (h := 0) (by decide) (by decide)) c10
            exact tp_s (r_w (l' := 0) (h' := 1) (r_n (x := (1 : Int32)) (l := 1) (h := 1) (by decide) (by decide)) (by decide) (by decide))
theorem t_f_X12_isTangled {k2 : Int32} {m_v : TX12_v} {q_q : TX11_q} (h_k2 : R32 (0) (4) k2) (h_q_q_1 : R32 (2) (8) q_q.1) (h_q_q_2_1 : R32 (1) (9) q_q.2.1) (h_q_q_2_2_2_2_1 : R32 (1) (4) q_q.2.2.2.2.1) (h_q_q_2_2_2_2_2_1 : R32 (1) (5) q_q.2.2.2.2.2.1) (h_q_q_2_2_2_2_2_2_1 : R32 (0) (6) q_q.2.2.2.2.2.2.1) (h_q_q_2_2_2_2_2_2_2_1 : R32 (0) (6) q_q.2.2.2.2.2.2.2.1) : TotP (f_X12_isTangled k2 m_v q_q) (fun (r : Int32) => R32 (0) (1) r) := by
  unfold f_X12_isTangled
  exact t_f_X12_isTangled_L2 h_k2 h_q_q_1 h_q_q_2_1 h_q_q_2_2_2_2_1 h_q_q_2_2_2_2_2_1 h_q_q_2_2_2_2_2_2_1 h_q_q_2_2_2_2_2_2_2_1 FU _ (r_w (l' := 0) (h' := 5) (r_n (x := (0 : Int32)) (l := 0) (h := 0) (by decide) (by decide)) (by decide) (by decide)) (fu_up (r_w (l' := 0) (h' := 5) (r_n (x := (0 : Int32)) (l := 0) (h := 0) (by decide) (by decide)) (by decide) (by decide)) (by decide))
theorem t_f_X12_fathomsOf {k1 : Int32} {q_q : TX11_q} (h_q_q_1 : R32 (2) (8) q_q.1) (h_q_q_2_1 : R32 (1) (9) q_q.2.1) (h_q_q_2_2_2_2_1 : R32 (1) (4) q_q.2.2.2.2.1) (h_q_q_2_2_2_2_2_1 : R32 (0) (5) q_q.2.2.2.2.2.1) (h_q_q_2_2_2_2_2_2_1 : R32 (0) (6) q_q.2.2.2.2.2.2.1) (h_q_q_2_2_2_2_2_2_2_1 : R32 (0) (6) q_q.2.2.2.2.2.2.2.1) : TotP (f_X12_fathomsOf k1 q_q) (fun (r : Int32) => True) := by
  unfold f_X12_fathomsOf
  refine tp_zp h_q_q_2_2_2_2_1 (by decide) ?_
  refine tp_zp h_q_q_2_1 (by decide) ?_
  refine tp_n0 (fun z16 => ?_)
  exact tp_s trivial
theorem t_f_X12_baitOf {k1 : Int32} {q_q : TX11_q} (h_q_q_1 : R32 (2) (8) q_q.1) (h_q_q_2_1 : R32 (1) (9) q_q.2.1) (h_q_q_2_2_2_2_1 : R32 (1) (4) q_q.2.2.2.2.1) (h_q_q_2_2_2_2_2_1 : R32 (0) (5) q_q.2.2.2.2.2.1) (h_q_q_2_2_2_2_2_2_1 : R32 (0) (6) q_q.2.2.2.2.2.2.1) (h_q_q_2_2_2_2_2_2_2_1 : R32 (0) (6) q_q.2.2.2.2.2.2.2.1) : TotP (f_X12_baitOf k1 q_q) (fun (r : Int32) => True) := by
  unfold f_X12_baitOf
  refine tp_zp h_q_q_2_2_2_2_1 (by decide) ?_
  exact tp_s trivial
theorem t_f_X11_wishBy_J82 {v82_t0 : Int32} : TotP (f_X11_wishBy_J82 v82_t0) (fun (r : Int32) => R32 (0) (100) r) := by
  unfold f_X11_wishBy_J82
  refine tp_e (f_X11_cut.eq_1 _) ?_
  refine tp_nif (fun c1 => ?_) (fun c1 => ?_)
  · skip
    have r2 : R32 (0) (2147483647) v82_t0 := r_le2 (r_n (x := (0 : Int32)) (l := 0) (h := 0) (by decide) (by decide)) (r_top _) c1
    refine tp_nif (fun c3 => ?_) (fun c3 => ?_)
    · skip
      have r4 : R32 (0) (100) v82_t0 := r_le1 r2 (r_n (x := (100 : Int32)) (l := 100) (h := 100) (by decide) (by decide)) c3
      refine tp_nl ?_
      exact tp_s r4
    · skip
      have r5 : R32 (101) (2147483647) v82_t0 := r_nle1 (by decide) r2 (r_n (x := (100 : Int32)) (l := 100) (h := 100) (by decide) (by decide)) c3
      refine tp_nl ?_
      exact tp_s (r_w (l' := 0) (h' := 100) (r_n (x := (100 : Int32)) (l := 100) (h := 100) (by decide) (by decide)) (by decide) (by decide))
  · skip
    have r6 : R32 (-2147483648) (-1) v82_t0 := r_nle2 (by decide) (r_n (x := (0 : Int32)) (l := 0) (h := 0) (by decide) (by decide)) (r_top _) c1
    refine tp_nl ?_
    exact tp_s (r_w (l' := 0) (h' := 100) (r_n (x := (0 : Int32)) (l := 0) (h := 0) (by decide) (by decide)) (by decide) (by decide))
theorem t_f_X11_wishBy_J33 {k1 : Int32} {k2 : Int32} {k3 : Int32} {k4 : Int32} {q_q : TX11_q} {v33_t1 : Int32} (h_k2 : R32 (0) (5) k2) (h_q_q_1 : R32 (2) (8) q_q.1) (h_q_q_2_1 : R32 (1) (9) q_q.2.1) (h_q_q_2_2_2_2_1 : R32 (1) (4) q_q.2.2.2.2.1) (h_q_q_2_2_2_2_2_1 : R32 (0) (5) q_q.2.2.2.2.2.1) (h_q_q_2_2_2_2_2_2_1 : R32 (1) (6) q_q.2.2.2.2.2.2.1) (h_q_q_2_2_2_2_2_2_2_1 : R32 (0) (6) q_q.2.2.2.2.2.2.2.1) (h_v33_t1 : R32 (-20) (20) v33_t1) : TotP (f_X11_wishBy_J33 k1 k2 k3 k4 q_q v33_t1) (fun (r : Int32) => R32 (0) (100) r) := by
  unfold f_X11_wishBy_J33
  refine tp_g h_k2 (by decide) (by decide) ?_
  refine tp_e (f_X12_apart.eq_1 _ _) ?_
  refine tp_nif (fun c1 => ?_) (fun c1 => ?_)
  · skip
    refine tp_n0 (fun o43 => ?_)
    refine tp_g h_k2 (by decide) (by decide) ?_
    refine tp_if (fun c2 => ?_) (fun c2 => ?_)
    · skip
      have r3 : R32 (2) (2) (q_q.2.2.2.2.2.2.2.2.2.2.2.1 (k2).toNatClampNeg) := r_eq1 (l := 2) (h := 2) (by decide) (by decide) (r_top _) (r_n (x := (2 : Int32)) (l := 2) (h := 2) (by decide) (by decide)) c2
      exact t_f_X11_wishBy_J82 
    · skip
      refine tp_g h_k2 (by decide) (by decide) ?_
      refine tp_e (f_X12_apart.eq_1 _ _) ?_
      refine tp_nif (fun c4 => ?_) (fun c4 => ?_)
      · skip
        refine tp_n0 (fun o77 => ?_)
        refine tp_n0 (fun z81 => ?_)
        exact t_f_X11_wishBy_J82 
      · skip
        have r5 : R32 (-2147483647) (2147483647) k4 := r_nle1 (by decide) (r_top _) (r_top _) c4
        have r6 : R32 (-2147483648) (2147483646) (q_q.2.2.2.2.2.2.2.2.2.2.2.2.2.1 (k2).toNatClampNeg) := r_nle2 (by decide) (r_top _) (r_top _) c4
        refine tp_n0 (fun o77 => ?_)
        refine tp_n0 (fun z81 => ?_)
        exact t_f_X11_wishBy_J82 
  · skip
    have r7 : R32 (-2147483647) (2147483647) k3 := r_nle1 (by decide) (r_top _) (r_top _) c1
    have r8 : R32 (-2147483648) (2147483646) (q_q.2.2.2.2.2.2.2.2.2.2.2.2.1 (k2).toNatClampNeg) := r_nle2 (by decide) (r_top _) (r_top _) c1
    refine tp_n0 (fun o43 => ?_)
    refine tp_g h_k2 (by decide) (by decide) ?_
    refine tp_if (fun c9 => ?_) (fun c9 => ?_)
    · skip
      have r10 : R32 (2) (2) (q_q.2.2.2.2.2.2.2.2.2.2.2.1 (k2).toNatClampNeg) := r_eq1 (l := 2) (h := 2) (by decide) (by decide) (r_top _) (r_n (x := (2 : Int32)) (l := 2) (h := 2) (by decide) (by decide)) c9
      exact t_f_X11_wishBy_J82 
    · skip
      refine tp_g h_k2 (by decide) (by decide) ?_
      refine tp_e (f_X12_apart.eq_1 _ _) ?_
      refine tp_nif (fun c11 => ?_) (fun c11 => ?_)
      · skip
        refine tp_n0 (fun o77 => ?_)
        refine tp_n0 (fun z81 => ?_)
        exact t_f_X11_wishBy_J82 
      · skip
        have r12 : R32 (-2147483647) (2147483647) k4 := r_nle1 (by decide) (r_top _) (r_top _) c11
        have r13 : R32 (-2147483648) (2147483646) (q_q.2.2.2.2.2.2.2.2.2.2.2.2.2.1 (k2).toNatClampNeg) := r_nle2 (by decide) (r_top _) (r_top _) c11
        refine tp_n0 (fun o77 => ?_)
        refine tp_n0 (fun z81 => ?_)
        exact t_f_X11_wishBy_J82 
theorem t_f_X11_wishBy {k1 : Int32} {k2 : Int32} {k3 : Int32} {k4 : Int32} {k5 : Int32} {q_q : TX11_q} (h_k2 : R32 (0) (5) k2) (h_q_q_1 : R32 (2) (8) q_q.1) (h_q_q_2_1 : R32 (1) (9) q_q.2.1) (h_q_q_2_2_2_2_1 : R32 (1) (4) q_q.2.2.2.2.1) (h_q_q_2_2_2_2_2_1 : R32 (0) (5) q_q.2.2.2.2.2.1) (h_q_q_2_2_2_2_2_2_1 : R32 (1) (6) q_q.2.2.2.2.2.2.1) (h_q_q_2_2_2_2_2_2_2_1 : R32 (0) (6) q_q.2.2.2.2.2.2.2.1) : TotP (f_X11_wishBy k1 k2 k3 k4 k5 q_q) (fun (r : Int32) => R32 (0) (100) r) := by
  unfold f_X11_wishBy
  refine tp_g h_k2 (by decide) (by decide) ?_
  refine tp_if (fun c1 => ?_) (fun c1 => ?_)
  · skip
    have r2 : R32 (3) (3) (q_q.2.2.2.2.2.2.2.2.2.2.2.1 (k2).toNatClampNeg) := r_eq1 (l := 3) (h := 3) (by decide) (by decide) (r_top _) (r_n (x := (3 : Int32)) (l := 3) (h := 3) (by decide) (by decide)) c1
    exact t_f_X11_wishBy_J33 h_k2 h_q_q_1 h_q_q_2_1 h_q_q_2_2_2_2_1 h_q_q_2_2_2_2_2_1 h_q_q_2_2_2_2_2_2_1 h_q_q_2_2_2_2_2_2_2_1 (r_w (l' := -20) (h' := 20) (r_n (x := (-20 : Int32)) (l := -20) (h := -20) (by decide) (by decide)) (by decide) (by decide))
  · skip
    refine tp_g h_k2 (by decide) (by decide) ?_
    refine tp_if (fun c3 => ?_) (fun c3 => ?_)
    · skip
      exact t_f_X11_wishBy_J33 h_k2 h_q_q_1 h_q_q_2_1 h_q_q_2_2_2_2_1 h_q_q_2_2_2_2_2_1 h_q_q_2_2_2_2_2_2_1 h_q_q_2_2_2_2_2_2_2_1 (r_w (l' := -20) (h' := 20) (r_n (x := (20 : Int32)) (l := 20) (h := 20) (by decide) (by decide)) (by decide) (by decide))
    · skip
      exact t_f_X11_wishBy_J33 h_k2 h_q_q_1 h_q_q_2_1 h_q_q_2_2_2_2_1 h_q_q_2_2_2_2_2_1 h_q_q_2_2_2_2_2_2_1 h_q_q_2_2_2_2_2_2_2_1 (r_w (l' := -20) (h' := 20) (r_n (x := (0 : Int32)) (l := 0) (h := 0) (by decide) (by decide)) (by decide) (by decide))
theorem t_f_X11_wish {k1 : Int32} {k2 : Int32} {k3 : Int32} {k4 : Int32} {q_q : TX11_q} (h_k1 : R32 (0) (5) k1) (h_q_q_1 : R32 (2) (8) q_q.1) (h_q_q_2_1 : R32 (1) (9) q_q.2.1) (h_q_q_2_2_2_2_1 : R32 (1) (4) q_q.2.2.2.2.1) (h_q_q_2_2_2_2_2_1 : R32 (0) (5) q_q.2.2.2.2.2.1) (h_q_q_2_2_2_2_2_2_1 : R32 (1) (6) q_q.2.2.2.2.2.2.1) (h_q_q_2_2_2_2_2_2_2_1 : R32 (0) (6) q_q.2.2.2.2.2.2.2.1) : TotP (f_X11_wish k1 k2 k3 k4 q_q) (fun (r : Int32) => R32 (0) (100) r) := by
  unfold f_X11_wish
  refine tp_g h_k1 (by decide) (by decide) ?_
  refine tp_b (t_f_X11_wishBy h_k1 h_q_q_1 h_q_q_2_1 h_q_q_2_2_2_2_1 h_q_q_2_2_2_2_2_1 h_q_q_2_2_2_2_2_2_1 h_q_q_2_2_2_2_2_2_2_1) (fun o12 h1 => ?_)
  exact tp_s h1
theorem t_f_X12_wishOf {k1 : Int32} {k2 : Int32} {q_q : TX11_q} (h_k1 : R32 (0) (5) k1) (h_q_q_1 : R32 (2) (8) q_q.1) (h_q_q_2_1 : R32 (1) (9) q_q.2.1) (h_q_q_2_2_2_2_1 : R32 (1) (4) q_q.2.2.2.2.1) (h_q_q_2_2_2_2_2_1 : R32 (0) (5) q_q.2.2.2.2.2.1) (h_q_q_2_2_2_2_2_2_1 : R32 (1) (6) q_q.2.2.2.2.2.2.1) (h_q_q_2_2_2_2_2_2_2_1 : R32 (0) (6) q_q.2.2.2.2.2.2.2.1) : TotP (f_X12_wishOf k1 k2 q_q) (fun (r : Int32) => R32 (0) (100) r) := by
  unfold f_X12_wishOf
  refine tp_b (t_f_X12_spotOf h_q_q_1 h_q_q_2_1 h_q_q_2_2_2_2_1 h_q_q_2_2_2_2_2_1 (r_w (l' := 0) (h' := 6) h_q_q_2_2_2_2_2_2_1 (by decide) (by decide)) h_q_q_2_2_2_2_2_2_2_1) (fun o7 h1 => ?_)
  refine tp_b (t_f_X12_fathomsOf h_q_q_1 h_q_q_2_1 h_q_q_2_2_2_2_1 h_q_q_2_2_2_2_2_1 (r_w (l' := 0) (h' := 6) h_q_q_2_2_2_2_2_2_1 (by decide) (by decide)) h_q_q_2_2_2_2_2_2_2_1) (fun o12 h2 => ?_)
  refine tp_b (t_f_X12_baitOf h_q_q_1 h_q_q_2_1 h_q_q_2_2_2_2_1 h_q_q_2_2_2_2_2_1 (r_w (l' := 0) (h' := 6) h_q_q_2_2_2_2_2_2_1 (by decide) (by decide)) h_q_q_2_2_2_2_2_2_2_1) (fun o17 h3 => ?_)
  refine tp_b (t_f_X11_wish h_k1 h_q_q_1 h_q_q_2_1 h_q_q_2_2_2_2_1 h_q_q_2_2_2_2_2_1 h_q_q_2_2_2_2_2_2_1 h_q_q_2_2_2_2_2_2_2_1) (fun o20 h4 => ?_)
  exact tp_s h4
theorem t_f_X12_taker_J64 {k2_ : Int32 → TX12_v → Option (Int32 × TX12_v)} {v2_l3 : Int32} {v64_m_v : TX12_v} {N2 : Nat} (hk2 : ∀ (v2_l3 : Int32) (v2_m_v : TX12_v), R32 (0) (6) v2_l3 → (6 : Int) - v2_l3.toInt < (N2 : Nat) → TotP (k2_ v2_l3 v2_m_v) (fun (r : Int32 × TX12_v) => r.1 = (-2 : Int32) ∨ R32 (0) (5) r.1)) (hm2 : (6 : Int) - v2_l3.toInt < ((N2 + 1 : Nat) : Int)) (h_v2_l3 : R32 (0) (5) v2_l3) : TotP (f_X12_taker_J64 k2_ v2_l3 v64_m_v) (fun (r : Int32 × TX12_v) => r.1 = (-2 : Int32) ∨ R32 (0) (5) r.1) := by
  unfold f_X12_taker_J64
  exact hk2 _ _ (r_w (l' := 0) (h' := 6) (r_add (l := 1) (h := 6) h_v2_l3 (r_n (x := (1 : Int32)) (l := 1) (h := 1) (by decide) (by decide)) (by decide) (by decide) (by decide) (by decide)) (by decide) (by decide)) (ms_up (y := (1 : Int32)) h_v2_l3 (by decide) (by decide) (by decide) hm2)
theorem t_f_X12_taker_L2 {k2 : Int32} {q_q : TX11_q} (h_q_q_1 : R32 (2) (8) q_q.1) (h_q_q_2_1 : R32 (1) (9) q_q.2.1) (h_q_q_2_2_2_2_1 : R32 (1) (4) q_q.2.2.2.2.1) (h_q_q_2_2_2_2_2_1 : R32 (1) (5) q_q.2.2.2.2.2.1) (h_q_q_2_2_2_2_2_2_1 : R32 (0) (6) q_q.2.2.2.2.2.2.1) (h_q_q_2_2_2_2_2_2_2_1 : R32 (0) (6) q_q.2.2.2.2.2.2.2.1) : ∀ (n : Nat) (v2_l3 : Int32) (v2_m_v : TX12_v), R32 (0) (6) v2_l3 → (6 : Int) - v2_l3.toInt < (n : Int) → TotP (f_X12_taker_L2 k2 q_q n v2_l3 v2_m_v) (fun (r : Int32 × TX12_v) => r.1 = (-2 : Int32) ∨ R32 (0) (5) r.1) := by
  intro n
  induction n with
  | zero =>
    intro v2_l3 v2_m_v h_v2_l3 hm
    exact (ms_0u h_v2_l3 hm).elim
  | succ n ih =>
    intro v2_l3 v2_m_v h_v2_l3 hm
    rw [f_X12_taker_L2]
    refine tp_if (fun c1 => ?_) (fun c1 => ?_)
    · skip
      exact tp_s (Or.inl (by first | rfl | decide))
    · skip
      have r2 : R32 (1) (6) q_q.2.2.2.2.2.2.1 := r_nle1 (by decide) h_q_q_2_2_2_2_2_2_1 h_v2_l3 c1
      have r3 : R32 (0) (5) v2_l3 := r_nle2 (by decide) h_q_q_2_2_2_2_2_2_1 h_v2_l3 c1
      refine tp_g (r_add (l := 0) (h := 5) (r_n (x := (0 : Int32)) (l := 0) (h := 0) (by decide) (by decide)) r3 (by decide) (by decide) (by decide) (by decide)) (by decide) (by decide) ?_
      refine tp_if (fun c4 => ?_) (fun c4 => ?_)
      · skip
        have r5 : R32 (0) (0) (v2_m_v (((0 : Int32) + v2_l3)).toNatClampNeg) := r_eq1 (l := 0) (h := 0) (by decide) (by decide) (r_top _) (r_n (x := (0 : Int32)) (l := 0) (h := 0) (by decide) (by decide)) c4
        refine tp_n0 (fun z35 => ?_)
        refine tp_n0 (fun z43 => ?_)
        refine tp_n0 (fun z49 => ?_)
        refine tp_b (t_f_X12_wishOf r3 h_q_q_1 h_q_q_2_1 h_q_q_2_2_2_2_1 (r_w (l' := 0) (h' := 5) h_q_q_2_2_2_2_2_1 (by decide) (by decide)) r2 h_q_q_2_2_2_2_2_2_2_1) (fun o56 h6 => ?_)
        refine tp_if (fun c7 => ?_) (fun c7 => ?_)
        · skip
          have r8 : R32 (0) (2147483647) (z49 - ((z49 / (100 : Int32)) * (100 : Int32))) := r_le2 h6 (r_top _) c7
          exact t_f_X12_taker_J64 ih hm r3
        · skip
          have r9 : R32 (-2147483648) (99) (z49 - ((z49 / (100 : Int32)) * (100 : Int32))) := r_nle2 (by decide) h6 (r_top _) c7
          exact tp_s (Or.inr r3)
      · skip
        exact t_f_X12_taker_J64 ih hm r3
theorem t_f_X12_taker {k2 : Int32} {m_v : TX12_v} {q_q : TX11_q} (h_q_q_1 : R32 (2) (8) q_q.1) (h_q_q_2_1 : R32 (1) (9) q_q.2.1) (h_q_q_2_2_2_2_1 : R32 (1) (4) q_q.2.2.2.2.1) (h_q_q_2_2_2_2_2_1 : R32 (1) (5) q_q.2.2.2.2.2.1) (h_q_q_2_2_2_2_2_2_1 : R32 (0) (6) q_q.2.2.2.2.2.2.1) (h_q_q_2_2_2_2_2_2_2_1 : R32 (0) (6) q_q.2.2.2.2.2.2.2.1) : TotP (f_X12_taker k2 m_v q_q) (fun (r : Int32 × TX12_v) => r.1 = (-2 : Int32) ∨ R32 (0) (5) r.1) := by
  unfold f_X12_taker
  exact t_f_X12_taker_L2 h_q_q_1 h_q_q_2_1 h_q_q_2_2_2_2_1 h_q_q_2_2_2_2_2_1 h_q_q_2_2_2_2_2_2_1 h_q_q_2_2_2_2_2_2_2_1 FU _ _ (r_w (l' := 0) (h' := 6) (r_n (x := (0 : Int32)) (l := 0) (h := 0) (by decide) (by decide)) (by decide) (by decide)) (fu_up (r_w (l' := 0) (h' := 6) (r_n (x := (0 : Int32)) (l := 0) (h := 0) (by decide) (by decide)) (by decide) (by decide)) (by decide))
theorem t_f_X12_goesBy_J143 {k4_ : Int32 → Int32 → TX12_v → TX12_c → Option (Int32 × TX12_v × TX12_c)} {v4_l3 : Int32} {v143_l2 : Int32} {v143_m_v : TX12_v} {v143_m_c : TX12_c} {N4 : Nat} (hk4 : ∀ (v4_l3 : Int32) (v4_l2 : Int32) (v4_m_v : TX12_v) (v4_m_c : TX12_c), R32 (0) (5) v4_l3 → R32 (0) (63) v4_l2 → (5 : Int) - v4_l3.toInt < (N4 : Nat) → TotP (k4_ v4_l3 v4_l2 v4_m_v v4_m_c) (fun (r : Int32 × TX12_v × TX12_c) => R32 (0) (63) r.1)) (hm4 : (5 : Int) - v4_l3.toInt < ((N4 + 1 : Nat) : Int)) (h_v4_l3 : R32 (0) (4) v4_l3) (h_v143_l2 : R32 (0) (63) v143_l2) : TotP (f_X12_goesBy_J143 k4_ v4_l3 v143_l2 v143_m_v v143_m_c) (fun (r : Int32 × TX12_v × TX12_c) => R32 (0) (63) r.1) := by
  unfold f_X12_goesBy_J143
  exact hk4 _ _ _ _ (r_w (l' := 0) (h' := 5) (r_add (l := 1) (h := 5) h_v4_l3 (r_n (x := (1 : Int32)) (l := 1) (h := 1) (by decide) (by decide)) (by decide) (by decide) (by decide) (by decide)) (by decide) (by decide)) h_v143_l2 (ms_up (y := (1 : Int32)) h_v4_l3 (by decide) (by decide) (by decide) hm4)
theorem t_f_X12_goesBy_J149 {v4_l2 : Int32} {v4_m_c : TX12_c} {v4_m_v : TX12_v} (h_v4_l2 : R32 (0) (63) v4_l2) : TotP (f_X12_goesBy_J149 v4_l2 v4_m_c v4_m_v) (fun (r : Int32 × TX12_v × TX12_c) => R32 (0) (63) r.1) := by
  unfold f_X12_goesBy_J149
  exact tp_s h_v4_l2
theorem t_f_X12_goesBy_L4 {q_q : TX11_q} (h_q_q_1 : R32 (2) (8) q_q.1) (h_q_q_2_1 : R32 (1) (9) q_q.2.1) (h_q_q_2_2_2_2_1 : R32 (1) (4) q_q.2.2.2.2.1) (h_q_q_2_2_2_2_2_1 : R32 (0) (5) q_q.2.2.2.2.2.1) (h_q_q_2_2_2_2_2_2_1 : R32 (0) (6) q_q.2.2.2.2.2.2.1) (h_q_q_2_2_2_2_2_2_2_1 : R32 (0) (6) q_q.2.2.2.2.2.2.2.1) : ∀ (n : Nat) (v4_l3 : Int32) (v4_l2 : Int32) (v4_m_v : TX12_v) (v4_m_c : TX12_c), R32 (0) (5) v4_l3 → R32 (0) (63) v4_l2 → (5 : Int) - v4_l3.toInt < (n : Int) → TotP (f_X12_goesBy_L4 q_q n v4_l3 v4_l2 v4_m_v v4_m_c) (fun (r : Int32 × TX12_v × TX12_c) => R32 (0) (63) r.1) := by
  intro n
  induction n with
  | zero =>
    intro v4_l3 v4_l2 v4_m_v v4_m_c h_v4_l3 h_v4_l2 hm
    exact (ms_0u h_v4_l3 hm).elim
  | succ n ih =>
    intro v4_l3 v4_l2 v4_m_v v4_m_c h_v4_l3 h_v4_l2 hm
    rw [f_X12_goesBy_L4]
    refine tp_if (fun c1 => ?_) (fun c1 => ?_)
    · skip
      exact t_f_X12_goesBy_J149 h_v4_l2
    · skip
      have r2 : R32 (1) (5) q_q.2.2.2.2.2.1 := r_nle1 (by decide) h_q_q_2_2_2_2_2_1 h_v4_l3 c1
      have r3 : R32 (0) (4) v4_l3 := r_nle2 (by decide) h_q_q_2_2_2_2_2_1 h_v4_l3 c1
      refine tp_e (f_X11_isClose.eq_1 _ _) ?_
      refine tp_nif (fun c4 => ?_) (fun c4 => ?_)
      · skip
        have r5 : R32 (-2147483648) (2147483646) (v4_m_v ((23 : Int32)).toNatClampNeg) := r_lt1 (by decide) (r_top _) (r_top _) c4
        have r6 : R32 (-2147483647) (2147483647) q_q.2.2.1 := r_lt2 (by decide) (r_top _) (r_top _) c4
        refine tp_nl ?_
        refine tp_ift (d_eq (r_n (x := (0 : Int32)) (l := 0) (h := 0) (by decide) (by decide)) (r_n (x := (0 : Int32)) (l := 0) (h := 0) (by decide) (by decide))) ?_
        refine tp_g (r_add (l := 18) (h := 22) (r_n (x := (18 : Int32)) (l := 18) (h := 18) (by decide) (by decide)) r3 (by decide) (by decide) (by decide) (by decide)) (by decide) (by decide) ?_
        refine tp_if (fun c7 => ?_) (fun c7 => ?_)
        · skip
          have r8 : R32 (-2) (-2) (v4_m_v (((18 : Int32) + v4_l3)).toNatClampNeg) := r_eq1 (l := -2) (h := -2) (by decide) (by decide) (r_top _) (r_n (x := (-2 : Int32)) (l := -2) (h := -2) (by decide) (by decide)) c7
          exact t_f_X12_goesBy_J143 ih hm r3 h_v4_l2
        · skip
          refine tp_b (t_f_X12_isTangled r3 h_q_q_1 h_q_q_2_1 h_q_q_2_2_2_2_1 r2 h_q_q_2_2_2_2_2_2_1 h_q_q_2_2_2_2_2_2_2_1) (fun o43 h9 => ?_)
          refine tp_if (fun c10 => ?_) (fun c10 => ?_)
          · skip
            have r11 : R32 (0) (0) o43 := r_eq1 (l := 0) (h := 0) (by decide) (by decide) h9 (r_n (x := (0 : Int32)) (l := 0) (h := 0) (by decide) (by decide)) c10
            refine tp_g (r_add (l := 18) (h := 22) (r_n (x := (18 : Int32)) (l := 18) (h := 18) (by decide) (by decide)) r3 (by decide) (by decide) (by decide) (by decide)) (by decide) (by decide) ?_
            refine tp_b (t_f_X12_taker h_q_q_1 h_q_q_2_1 h_q_q_2_2_2_2_1 r2 h_q_q_2_2_2_2_2_2_1 h_q_q_2_2_2_2_2_2_2_1) (fun o60 h12 => ?_)
            refine tp_if (fun c13 => ?_) (fun c13 => ?_)
            · skip
              have r14 : R32 (-2) (-2) o60.1 := r_eq1 (l := -2) (h := -2) (by decide) (by decide) (r_hole (l' := -2) (h' := 5) h12 (by decide) (by decide)) (r_n (x := (-2 : Int32)) (l := -2) (h := -2) (by decide) (by decide)) c13
              exact t_f_X12_goesBy_J143 ih hm r3 h_v4_l2
            · skip
              have r15 : R32 (-1) (5) o60.1 := r_neL (by decide) (r_hole (l' := -2) (h' := 5) h12 (by decide) (by decide)) (r_n (x := (-2 : Int32)) (l := -2) (h := -2) (by decide) (by decide)) c13
              have r16 : R32 (0) (5) o60.1 := h12.resolve_left c13
              refine tp_g (r_add (l := 18) (h := 22) (r_n (x := (18 : Int32)) (l := 18) (h := 18) (by decide) (by decide)) r3 (by decide) (by decide) (by decide) (by decide)) (by decide) (by decide) ?_
              refine tp_g r16 (by decide) (by decide) ?_
              refine tp_if (fun c17 => ?_) (fun c17 => ?_)
              · skip
                have r18 : R32 (2) (2) (q_q.2.2.2.2.2.2.2.2.2.2.2.1 (o60.1).toNatClampNeg) := r_eq1 (l := 2) (h := 2) (by decide) (by decide) (r_top _) (r_n (x := (2 : Int32)) (l := 2) (h := 2) (by decide) (by decide)) c17
                exact t_f_X12_goesBy_J143 ih hm r3 h_v4_l2
              · skip
                refine tp_g (r_add (l := 0) (h := 5) (r_n (x := (0 : Int32)) (l := 0) (h := 0) (by decide) (by decide)) r16 (by decide) (by decide) (by decide) (by decide)) (by decide) (by decide) ?_
                refine tp_n0 (fun z126 => ?_)
                refine tp_g (r_add (l := 6) (h := 11) (r_n (x := (6 : Int32)) (l := 6) (h := 6) (by decide) (by decide)) r16 (by decide) (by decide) (by decide) (by decide)) (by decide) (by decide) ?_
                refine tp_g (r_add (l := 12) (h := 17) (r_n (x := (12 : Int32)) (l := 12) (h := 12) (by decide) (by decide)) r16 (by decide) (by decide) (by decide) (by decide)) (by decide) (by decide) ?_
                exact t_f_X12_goesBy_J143 ih hm r3 (r_or 6 63 h_v4_l2 (r_shl 0 5 (l := 1) (h := 32) r16 (by decide) (by decide) (by decide)) (by decide) (by decide) (by decide) (by decide) (by decide))
          · skip
            have r19 : R32 (1) (1) o43 := r_neL (by decide) h9 (r_n (x := (0 : Int32)) (l := 0) (h := 0) (by decide) (by decide)) c10
            exact t_f_X12_goesBy_J143 ih hm r3 h_v4_l2
      · skip
        refine tp_nif (fun c20 => ?_) (fun c20 => ?_)
        · skip
          have r21 : R32 (-2147483648) (2147483646) q_q.2.2.2.1 := r_lt1 (by decide) (r_top _) (r_top _) c20
          have r22 : R32 (-2147483647) (2147483647) (v4_m_v ((23 : Int32)).toNatClampNeg) := r_lt2 (by decide) (r_top _) (r_top _) c20
          refine tp_nl ?_
          refine tp_ift (d_eq (r_n (x := (0 : Int32)) (l := 0) (h := 0) (by decide) (by decide)) (r_n (x := (0 : Int32)) (l := 0) (h := 0) (by decide) (by decide))) ?_
          refine tp_g (r_add (l := 18) (h := 22) (r_n (x := (18 : Int32)) (l := 18) (h := 18) (by decide) (by decide)) r3 (by decide) (by decide) (by decide) (by decide)) (by decide) (by decide) ?_
          refine tp_if (fun c23 => ?_) (fun c23 => ?_)
          · skip
            have r24 : R32 (-2) (-2) (v4_m_v (((18 : Int32) + v4_l3)).toNatClampNeg) := r_eq1 (l := -2) (h := -2) (by decide) (by decide) (r_top _) (r_n (x := (-2 : Int32)) (l := -2) (h := -2) (by decide) (by decide)) c23
            exact t_f_X12_goesBy_J143 ih hm r3 h_v4_l2
          · skip
            refine tp_b (t_f_X12_isTangled r3 h_q_q_1 h_q_q_2_1 h_q_q_2_2_2_2_1 r2 h_q_q_2_2_2_2_2_2_1 h_q_q_2_2_2_2_2_2_2_1) (fun o43 h25 => ?_)
            refine tp_if (fun c26 => ?_) (fun c26 => ?_)
            · skip
              have r27 : R32 (0) (0) o43 := r_eq1 (l := 0) (h := 0) (by decide) (by decide) h25 (r_n (x := (0 : Int32)) (l := 0) (h := 0) (by decide) (by decide)) c26
              refine tp_g (r_add (l := 18) (h := 22) (r_n (x := (18 : Int32)) (l := 18) (h := 18) (by decide) (by decide)) r3 (by decide) (by decide) (by decide) (by decide)) (by decide) (by decide) ?_
              refine tp_b (t_f_X12_taker h_q_q_1 h_q_q_2_1 h_q_q_2_2_2_2_1 r2 h_q_q_2_2_2_2_2_2_1 h_q_q_2_2_2_2_2_2_2_1) (fun o60 h28 => ?_)
              refine tp_if (fun c29 => ?_) (fun c29 => ?_)
              · skip
                have r30 : R32 (-2) (-2) o60.1 := r_eq1 (l := -2) (h := -2) (by decide) (by decide) (r_hole (l' := -2) (h' := 5) h28 (by decide) (by decide)) (r_n (x := (-2 : Int32)) (l := -2) (h := -2) (by decide) (by decide)) c29
                exact t_f_X12_goesBy_J143 ih hm r3 h_v4_l2
              · skip
                have r31 : R32 (-1) (5) o60.1 := r_neL (by decide) (r_hole (l' := -2) (h' := 5) h28 (by decide) (by decide)) (r_n (x := (-2 : Int32)) (l := -2) (h := -2) (by decide) (by decide)) c29
                have r32 : R32 (0) (5) o60.1 := h28.resolve_left c29
                refine tp_g (r_add (l := 18) (h := 22) (r_n (x := (18 : Int32)) (l := 18) (h := 18) (by decide) (by decide)) r3 (by decide) (by decide) (by decide) (by decide)) (by decide) (by decide) ?_
                refine tp_g r32 (by decide) (by decide) ?_
                refine tp_if (fun c33 => ?_) (fun c33 => ?_)
                · skip
                  have r34 : R32 (2) (2) (q_q.2.2.2.2.2.2.2.2.2.2.2.1 (o60.1).toNatClampNeg) := r_eq1 (l := 2) (h := 2) (by decide) (by decide) (r_top _) (r_n (x := (2 : Int32)) (l := 2) (h := 2) (by decide) (by decide)) c33
                  exact t_f_X12_goesBy_J143 ih hm r3 h_v4_l2
                · skip
                  refine tp_g (r_add (l := 0) (h := 5) (r_n (x := (0 : Int32)) (l := 0) (h := 0) (by decide) (by decide)) r32 (by decide) (by decide) (by decide) (by decide)) (by decide) (by decide) ?_
                  refine tp_n0 (fun z126 => ?_)
                  refine tp_g (r_add (l := 6) (h := 11) (r_n (x := (6 : Int32)) (l := 6) (h := 6) (by decide) (by decide)) r32 (by decide) (by decide) (by decide) (by decide)) (by decide) (by decide) ?_
                  refine tp_g (r_add (l := 12) (h := 17) (r_n (x := (12 : Int32)) (l := 12) (h := 12) (by decide) (by decide)) r32 (by decide) (by decide) (by decide) (by decide)) (by decide) (by decide) ?_
                  exact t_f_X12_goesBy_J143 ih hm r3 (r_or 6 63 h_v4_l2 (r_shl 0 5 (l := 1) (h := 32) r32 (by decide) (by decide) (by decide)) (by decide) (by decide) (by decide) (by decide) (by decide))
            · skip
              have r35 : R32 (1) (1) o43 := r_neL (by decide) h25 (r_n (x := (0 : Int32)) (l := 0) (h := 0) (by decide) (by decide)) c26
              exact t_f_X12_goesBy_J143 ih hm r3 h_v4_l2
        · skip
          refine tp_nl ?_
          refine tp_iff (d_ne2 (r_n (x := (1 : Int32)) (l := 1) (h := 1) (by decide) (by decide)) (r_n (x := (0 : Int32)) (l := 0) (h := 0) (by decide) (by decide)) (by decide)) ?_
          exact t_f_X12_goesBy_J149 h_v4_l2
