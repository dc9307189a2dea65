/-! the functions answer, part 2 -/
theorem t_f_X10_likers_J43 {k4_ : Int32 → Int32 → Option Int32} {v4_l3 : Int32} {v43_l2 : Int32} {N4 : Nat} (hk4 : ∀ (v4_l3 : Int32) (v4_l2 : Int32), R32 (0) (6) v4_l3 → (6 : Int) - v4_l3.toInt < (N4 : Nat) → TotP (k4_ v4_l3 v4_l2) (fun (r : Int32) => True)) (hm4 : (6 : Int) - v4_l3.toInt < ((N4 + 1 : Nat) : Int)) (h_v4_l3 : R32 (0) (5) v4_l3) : TotP (f_X10_likers_J43 k4_ v4_l3 v43_l2) (fun (r : Int32) => True) := by
  unfold f_X10_likers_J43
  exact hk4 _ _ (r_w (l' := 0) (h' := 6) (r_add (l := 1) (h := 6) h_v4_l3 (r_n (x := (1 : Int32)) (l := 1) (h := 1) (by decide) (by decide)) (by decide) (by decide) (by decide) (by decide)) (by decide) (by decide)) (ms_up (y := (1 : Int32)) h_v4_l3 (by decide) (by decide) (by decide) hm4)
theorem t_f_X10_likers_L4 {k1 : Int32} {p_p : TX6_p} {n_n : TX4_n} (h_k1 : R32 (0) (3) k1) (h_p_p_1 : R32 (1) (8) p_p.1) (h_p_p_2_1 : R32 (0) (9) p_p.2.1) (h_p_p_2_2_2_2_1 : R32 (2) (4) p_p.2.2.2.2.1) (h_p_p_2_2_2_2_2_1 : R32 (0) (5) p_p.2.2.2.2.2.1) (h_p_p_2_2_2_2_2_2_1 : R32 (0) (6) p_p.2.2.2.2.2.2.1) (h_p_p_2_2_2_2_2_2_2_1 : R32 (0) (6) p_p.2.2.2.2.2.2.2.1) : ∀ (n : Nat) (v4_l3 : Int32) (v4_l2 : Int32), R32 (0) (6) v4_l3 → (6 : Int) - v4_l3.toInt < (n : Int) → TotP (f_X10_likers_L4 k1 p_p n_n n v4_l3 v4_l2) (fun (r : Int32) => True) := by
  intro n
  induction n with
  | zero =>
    intro v4_l3 v4_l2 h_v4_l3 hm
    exact (ms_0u h_v4_l3 hm).elim
  | succ n ih =>
    intro v4_l3 v4_l2 h_v4_l3 hm
    rw [f_X10_likers_L4]
    refine tp_if (fun c1 => ?_) (fun c1 => ?_)
    · skip
      exact tp_s trivial
    · skip
      have r2 : R32 (1) (6) p_p.2.2.2.2.2.2.1 := r_nle1 (by decide) h_p_p_2_2_2_2_2_2_1 h_v4_l3 c1
      have r3 : R32 (0) (5) v4_l3 := r_nle2 (by decide) h_p_p_2_2_2_2_2_2_1 h_v4_l3 c1
      refine tp_g r3 (by decide) (by decide) ?_
      refine tp_if (fun c4 => ?_) (fun c4 => ?_)
      · skip
        have r5 : R32 (0) (0) (n_n.2.2.2.1 (v4_l3).toNatClampNeg) := r_eq1 (l := 0) (h := 0) (by decide) (by decide) (r_top _) (r_n (x := (0 : Int32)) (l := 0) (h := 0) (by decide) (by decide)) c4
        refine tp_g r3 (by decide) (by decide) ?_
        refine tp_if (fun c6 => ?_) (fun c6 => ?_)
        · skip
          have r7 : R32 (0) (3) (p_p.2.2.2.2.2.2.2.2.2.2.2.2.2.2.1 (v4_l3).toNatClampNeg) := r_eq1 (l := 0) (h := 3) (by decide) (by decide) (r_top _) h_k1 c6
          exact t_f_X10_likers_J43 ih hm r3
        · skip
          exact t_f_X10_likers_J43 ih hm r3
      · skip
        exact t_f_X10_likers_J43 ih hm r3
theorem t_f_X10_likers {k1 : Int32} {p_p : TX6_p} {n_n : TX4_n} (h_k1 : R32 (0) (3) k1) (h_p_p_1 : R32 (1) (8) p_p.1) (h_p_p_2_1 : R32 (0) (9) p_p.2.1) (h_p_p_2_2_2_2_1 : R32 (2) (4) p_p.2.2.2.2.1) (h_p_p_2_2_2_2_2_1 : R32 (0) (5) p_p.2.2.2.2.2.1) (h_p_p_2_2_2_2_2_2_1 : R32 (0) (6) p_p.2.2.2.2.2.2.1) (h_p_p_2_2_2_2_2_2_2_1 : R32 (0) (6) p_p.2.2.2.2.2.2.2.1) : TotP (f_X10_likers k1 p_p n_n) (fun (r : Int32) => True) := by
  unfold f_X10_likers
  exact t_f_X10_likers_L4 h_k1 h_p_p_1 h_p_p_2_1 h_p_p_2_2_2_2_1 h_p_p_2_2_2_2_2_1 h_p_p_2_2_2_2_2_2_1 h_p_p_2_2_2_2_2_2_2_1 FU _ _ (r_w (l' := 0) (h' := 6) (r_n (x := (0 : Int32)) (l := 0) (h := 0) (by decide) (by decide)) (by decide) (by decide)) (fu_up (r_w (l' := 0) (h' := 6) (r_n (x := (0 : Int32)) (l := 0) (h := 0) (by decide) (by decide)) (by decide) (by decide)) (by decide))
theorem t_f_X10_bestBait_J43 {k17_ : Int32 → Int32 → Option (Int32 × TX10_x)} {v17_l2 : Int32} {v43_l1 : Int32} {N17 : Nat} (hk17 : ∀ (v17_l2 : Int32) (v17_l1 : Int32), R32 (1) (4) v17_l2 → R32 (0) (3) v17_l1 → (4 : Int) - v17_l2.toInt < (N17 : Nat) → TotP (k17_ v17_l2 v17_l1) (fun (r : Int32 × TX10_x) => R32 (-1) (3) r.1 ∧ R32 (0) (1) r.2.1)) (hm17 : (4 : Int) - v17_l2.toInt < ((N17 + 1 : Nat) : Int)) (h_v17_l2 : R32 (1) (3) v17_l2) (h_v43_l1 : R32 (0) (3) v43_l1) : TotP (f_X10_bestBait_J43 k17_ v17_l2 v43_l1) (fun (r : Int32 × TX10_x) => R32 (-1) (3) r.1 ∧ R32 (0) (1) r.2.1) := by
  unfold f_X10_bestBait_J43
  exact hk17 _ _ (r_w (l' := 1) (h' := 4) (r_add (l := 2) (h := 4) h_v17_l2 (r_n (x := (1 : Int32)) (l := 1) (h := 1) (by decide) (by decide)) (by decide) (by decide) (by decide) (by decide)) (by decide) (by decide)) h_v43_l1 (ms_up (y := (1 : Int32)) h_v17_l2 (by decide) (by decide) (by decide) hm17)
theorem t_f_X10_bestBait_L17 {p_p : TX6_p} {n_n : TX4_n} {o5 : (Int32 × TX10_x)} (h_p_p_1 : R32 (1) (8) p_p.1) (h_p_p_2_1 : R32 (0) (9) p_p.2.1) (h_p_p_2_2_2_2_1 : R32 (0) (4) p_p.2.2.2.2.1) (h_p_p_2_2_2_2_2_1 : R32 (0) (5) p_p.2.2.2.2.2.1) (h_p_p_2_2_2_2_2_2_1 : R32 (0) (6) p_p.2.2.2.2.2.2.1) (h_p_p_2_2_2_2_2_2_2_1 : R32 (0) (6) p_p.2.2.2.2.2.2.2.1) (h_o5_1 : R32 (0) (0) o5.1) (h_o5_2_1 : R32 (0) (0) o5.2.1) : ∀ (n : Nat) (v17_l2 : Int32) (v17_l1 : Int32), R32 (1) (4) v17_l2 → R32 (0) (3) v17_l1 → (4 : Int) - v17_l2.toInt < (n : Int) → TotP (f_X10_bestBait_L17 p_p n_n o5 n v17_l2 v17_l1) (fun (r : Int32 × TX10_x) => R32 (-1) (3) r.1 ∧ R32 (0) (1) r.2.1) := by
  intro n
  induction n with
  | zero =>
    intro v17_l2 v17_l1 h_v17_l2 h_v17_l1 hm
    exact (ms_0u h_v17_l2 hm).elim
  | succ n ih =>
    intro v17_l2 v17_l1 h_v17_l2 h_v17_l1 hm
    rw [f_X10_bestBait_L17]
    refine tp_if (fun c1 => ?_) (fun c1 => ?_)
    · skip
      exact tp_s ⟨(r_w (l' := -1) (h' := 3) h_v17_l1 (by decide) (by decide)), (r_w (l' := 0) (h' := 1) h_o5_2_1 (by decide) (by decide))⟩
    · skip
      have r2 : R32 (2) (4) p_p.2.2.2.2.1 := r_nle1 (by decide) h_p_p_2_2_2_2_1 h_v17_l2 c1
      have r3 : R32 (1) (3) v17_l2 := r_nle2 (by decide) h_p_p_2_2_2_2_1 h_v17_l2 c1
      refine tp_b (t_f_X10_likers (r_w (l' := 0) (h' := 3) r3 (by decide) (by decide)) h_p_p_1 h_p_p_2_1 r2 h_p_p_2_2_2_2_2_1 h_p_p_2_2_2_2_2_2_1 h_p_p_2_2_2_2_2_2_2_1) (fun o30 h4 => ?_)
      refine tp_b (t_f_X10_likers h_v17_l1 h_p_p_1 h_p_p_2_1 r2 h_p_p_2_2_2_2_2_1 h_p_p_2_2_2_2_2_2_1 h_p_p_2_2_2_2_2_2_2_1) (fun o35 h5 => ?_)
      refine tp_if (fun c6 => ?_) (fun c6 => ?_)
      · skip
        exact t_f_X10_bestBait_J43 ih hm r3 h_v17_l1
      · skip
        have r7 : R32 (-2147483647) (2147483647) o30 := r_nle1 (by decide) (r_top _) (r_top _) c6
        have r8 : R32 (-2147483648) (2147483646) o35 := r_nle2 (by decide) (r_top _) (r_top _) c6
        exact t_f_X10_bestBait_J43 ih hm r3 (r_w (l' := 0) (h' := 3) r3 (by decide) (by decide))
theorem t_f_X10_bestBait {x_x : TX10_x} {p_p : TX6_p} {n_n : TX4_n} (h_p_p_1 : R32 (0) (8) p_p.1) (h_p_p_2_1 : R32 (0) (9) p_p.2.1) (h_p_p_2_2_2_2_1 : R32 (0) (4) p_p.2.2.2.2.1) (h_p_p_2_2_2_2_2_1 : R32 (0) (5) p_p.2.2.2.2.2.1) (h_p_p_2_2_2_2_2_2_1 : R32 (0) (6) p_p.2.2.2.2.2.2.1) (h_p_p_2_2_2_2_2_2_2_1 : R32 (0) (6) p_p.2.2.2.2.2.2.2.1) : TotP (f_X10_bestBait x_x p_p n_n) (fun (r : Int32 × TX10_x) => R32 (-1) (3) r.1 ∧ R32 (0) (1) r.2.1) := by
  unfold f_X10_bestBait
  refine tp_e (f_X10_pierTrouble.eq_1 _) ?_
  refine tp_nif (fun c1 => ?_) (fun c1 => ?_)
  · skip
    have r2 : R32 (0) (0) p_p.1 := r_eq1 (l := 0) (h := 0) (by decide) (by decide) h_p_p_1 (r_n (x := (0 : Int32)) (l := 0) (h := 0) (by decide) (by decide)) c1
    refine tp_nl ?_
    refine tp_e (f_X10_refused.eq_1 _ _) ?_
    refine tp_niff (d_ne2 (r_n (x := (1 : Int32)) (l := 1) (h := 1) (by decide) (by decide)) (r_n (x := (0 : Int32)) (l := 0) (h := 0) (by decide) (by decide)) (by decide)) ?_
    refine tp_nl ?_
    refine tp_iff (d_ne2 (r_n (x := (1 : Int32)) (l := 1) (h := 1) (by decide) (by decide)) (r_n (x := (0 : Int32)) (l := 0) (h := 0) (by decide) (by decide)) (by decide)) ?_
    exact tp_s ⟨(r_w (l' := -1) (h' := 3) (r_n (x := (-1 : Int32)) (l := -1) (h := -1) (by decide) (by decide)) (by decide) (by decide)), (r_w (l' := 0) (h' := 1) (r_n (x := (1 : Int32)) (l := 1) (h := 1) (by decide) (by decide)) (by decide) (by decide))⟩
  · skip
    have r3 : R32 (1) (8) p_p.1 := r_neL (by decide) h_p_p_1 (r_n (x := (0 : Int32)) (l := 0) (h := 0) (by decide) (by decide)) c1
    refine tp_nl ?_
    refine tp_e (f_X10_refused.eq_1 _ _) ?_
    refine tp_nift (d_eq (r_n (x := (0 : Int32)) (l := 0) (h := 0) (by decide) (by decide)) (r_n (x := (0 : Int32)) (l := 0) (h := 0) (by decide) (by decide))) ?_
    refine tp_nl ?_
    refine tp_ift (d_eq (r_n (x := (0 : Int32)) (l := 0) (h := 0) (by decide) (by decide)) (r_n (x := (0 : Int32)) (l := 0) (h := 0) (by decide) (by decide))) ?_
    exact t_f_X10_bestBait_L17 r3 h_p_p_2_1 h_p_p_2_2_2_2_1 h_p_p_2_2_2_2_2_1 h_p_p_2_2_2_2_2_2_1 h_p_p_2_2_2_2_2_2_2_1 (r_n (x := (0 : Int32)) (l := 0) (h := 0) (by decide) (by decide)) (r_n (x := (0 : Int32)) (l := 0) (h := 0) (by decide) (by decide)) FU _ _ (r_w (l' := 1) (h' := 4) (r_n (x := (1 : Int32)) (l := 1) (h := 1) (by decide) (by decide)) (by decide) (by decide)) (r_w (l' := 0) (h' := 3) (r_n (x := (0 : Int32)) (l := 0) (h := 0) (by decide) (by decide)) (by decide) (by decide)) (fu_up (r_w (l' := 1) (h' := 4) (r_n (x := (1 : Int32)) (l := 1) (h := 1) (by decide) (by decide)) (by decide) (by decide)) (by decide))
theorem t_f_X10_hungerFor_L30 {k1 : Int32} {p_p : TX6_p} {o10 : (Int32 × TX10_x)} {o22 : Int32} (h_k1 : R32 (0) (5) k1) (h_p_p_1 : R32 (0) (8) p_p.1) (h_p_p_2_1 : R32 (1) (9) p_p.2.1) (h_p_p_2_2_2_2_1 : R32 (0) (4) p_p.2.2.2.2.1) (h_p_p_2_2_2_2_2_1 : R32 (0) (5) p_p.2.2.2.2.2.1) (h_p_p_2_2_2_2_2_2_1 : R32 (0) (6) p_p.2.2.2.2.2.2.1) (h_p_p_2_2_2_2_2_2_2_1 : R32 (0) (6) p_p.2.2.2.2.2.2.2.1) (h_o10_1 : R32 (0) (0) o10.1) (h_o10_2_1 : R32 (0) (0) o10.2.1) (h_o22 : R32 (10) (793) o22) : ∀ (n : Nat) (v30_l6 : Int32), R32 (0) (100) v30_l6 → (100 : Int) - v30_l6.toInt < (n : Int) → TotP (f_X10_hungerFor_L30 k1 p_p o10 o22 n v30_l6) (fun (r : Int32 × TX10_x) => R32 (-2) (99) r.1 ∧ R32 (0) (2) r.2.1) := by
  intro n
  induction n with
  | zero =>
    intro v30_l6 h_v30_l6 hm
    exact (ms_0u h_v30_l6 hm).elim
  | succ n ih =>
    intro v30_l6 h_v30_l6 hm
    rw [f_X10_hungerFor_L30]
    refine tp_if (fun c1 => ?_) (fun c1 => ?_)
    · skip
      have r2 : R32 (100) (100) v30_l6 := r_lt2 (by decide) (r_n (x := (99 : Int32)) (l := 99) (h := 99) (by decide) (by decide)) h_v30_l6 c1
      exact tp_s ⟨(r_w (l' := -2) (h' := 99) (r_n (x := (-2 : Int32)) (l := -2) (h := -2) (by decide) (by decide)) (by decide) (by decide)), (r_w (l' := 0) (h' := 2) h_o10_2_1 (by decide) (by decide))⟩
    · skip
      have r3 : R32 (0) (99) v30_l6 := r_nlt2 (r_n (x := (99 : Int32)) (l := 99) (h := 99) (by decide) (by decide)) h_v30_l6 c1
      refine tp_b (t_f_X6_wishBy h_k1 h_p_p_1 (r_w (l' := 0) (h' := 9) h_p_p_2_1 (by decide) (by decide)) h_p_p_2_2_2_2_1 h_p_p_2_2_2_2_2_1 h_p_p_2_2_2_2_2_2_1 h_p_p_2_2_2_2_2_2_2_1) (fun o46 h4 => ?_)
      refine tp_if (fun c5 => ?_) (fun c5 => ?_)
      · skip
        have r6 : R32 (-2147483648) (49) o46 := r_lt1 (by decide) (r_top _) (r_n (x := (50 : Int32)) (l := 50) (h := 50) (by decide) (by decide)) c5
        exact ih _ (r_w (l' := 0) (h' := 100) (r_add (l := 1) (h := 100) r3 (r_n (x := (1 : Int32)) (l := 1) (h := 1) (by decide) (by decide)) (by decide) (by decide) (by decide) (by decide)) (by decide) (by decide)) (ms_up (y := (1 : Int32)) r3 (by decide) (by decide) (by decide) hm)
      · skip
        have r7 : R32 (50) (2147483647) o46 := r_nlt1 (r_top _) (r_n (x := (50 : Int32)) (l := 50) (h := 50) (by decide) (by decide)) c5
        exact tp_s ⟨(r_w (l' := -2) (h' := 99) r3 (by decide) (by decide)), (r_w (l' := 0) (h' := 2) h_o10_2_1 (by decide) (by decide))⟩
theorem t_f_X10_hungerFor {k1 : Int32} {k2 : Int32} {k3 : Int32} {k4 : Int32} {x_x : TX10_x} {p_p : TX6_p} (h_p_p_1 : R32 (0) (8) p_p.1) (h_p_p_2_1 : R32 (0) (9) p_p.2.1) (h_p_p_2_2_2_2_1 : R32 (0) (4) p_p.2.2.2.2.1) (h_p_p_2_2_2_2_2_1 : R32 (0) (5) p_p.2.2.2.2.2.1) (h_p_p_2_2_2_2_2_2_1 : R32 (0) (6) p_p.2.2.2.2.2.2.1) (h_p_p_2_2_2_2_2_2_2_1 : R32 (0) (6) p_p.2.2.2.2.2.2.2.1) : TotP (f_X10_hungerFor k1 k2 k3 k4 x_x p_p) (fun (r : Int32 × TX10_x) => R32 (-2) (99) r.1 ∧ R32 (0) (2) r.2.1) := by
  unfold f_X10_hungerFor
  refine tp_e (f_X10_wishTrouble.eq_1 _ _ _ _ _) ?_
  refine tp_nn ?_
  refine tp_e (f_X10_answerTrouble.eq_1 _ _) ?_
  refine tp_nn ?_
  refine tp_e (f_X6_hasAnswer.eq_1 _ _) ?_
  refine tp_nn ?_
  refine tp_e (f_X10_within.eq_1 _ _ _) ?_
  refine tp_nif (fun c1 => ?_) (fun c1 => ?_)
  · skip
    have r2 : R32 (-2147483648) (-1) k1 := r_lt1 (by decide) (r_top _) (r_n (x := (0 : Int32)) (l := 0) (h := 0) (by decide) (by decide)) c1
    refine tp_nl ?_
    refine tp_nl ?_
    refine tp_nift (d_eq (r_n (x := (0 : Int32)) (l := 0) (h := 0) (by decide) (by decide)) (r_n (x := (0 : Int32)) (l := 0) (h := 0) (by decide) (by decide))) ?_
    refine tp_nl ?_
    refine tp_niff (d_ne2 (r_n (x := (1 : Int32)) (l := 1) (h := 1) (by decide) (by decide)) (r_n (x := (0 : Int32)) (l := 0) (h := 0) (by decide) (by decide)) (by decide)) ?_
    refine tp_nl ?_
    refine tp_e (f_X10_refused.eq_1 _ _) ?_
    refine tp_niff (d_ne2 (r_n (x := (1 : Int32)) (l := 1) (h := 1) (by decide) (by decide)) (r_n (x := (0 : Int32)) (l := 0) (h := 0) (by decide) (by decide)) (by decide)) ?_
    refine tp_nl ?_
    refine tp_iff (d_ne2 (r_n (x := (1 : Int32)) (l := 1) (h := 1) (by decide) (by decide)) (r_n (x := (0 : Int32)) (l := 0) (h := 0) (by decide) (by decide)) (by decide)) ?_
    exact tp_s ⟨(r_w (l' := -2) (h' := 99) (r_n (x := (-1 : Int32)) (l := -1) (h := -1) (by decide) (by decide)) (by decide) (by decide)), (r_w (l' := 0) (h' := 2) (r_n (x := (1 : Int32)) (l := 1) (h := 1) (by decide) (by decide)) (by decide) (by decide))⟩
  · skip
    have r3 : R32 (0) (2147483647) k1 := r_nlt1 (r_top _) (r_n (x := (0 : Int32)) (l := 0) (h := 0) (by decide) (by decide)) c1
    refine tp_nif (fun c4 => ?_) (fun c4 => ?_)
    · skip
      refine tp_nl ?_
      refine tp_nl ?_
      refine tp_nift (d_eq (r_n (x := (0 : Int32)) (l := 0) (h := 0) (by decide) (by decide)) (r_n (x := (0 : Int32)) (l := 0) (h := 0) (by decide) (by decide))) ?_
      refine tp_nl ?_
      refine tp_niff (d_ne2 (r_n (x := (1 : Int32)) (l := 1) (h := 1) (by decide) (by decide)) (r_n (x := (0 : Int32)) (l := 0) (h := 0) (by decide) (by decide)) (by decide)) ?_
      refine tp_nl ?_
      refine tp_e (f_X10_refused.eq_1 _ _) ?_
      refine tp_niff (d_ne2 (r_n (x := (1 : Int32)) (l := 1) (h := 1) (by decide) (by decide)) (r_n (x := (0 : Int32)) (l := 0) (h := 0) (by decide) (by decide)) (by decide)) ?_
      refine tp_nl ?_
      refine tp_iff (d_ne2 (r_n (x := (1 : Int32)) (l := 1) (h := 1) (by decide) (by decide)) (r_n (x := (0 : Int32)) (l := 0) (h := 0) (by decide) (by decide)) (by decide)) ?_
      exact tp_s ⟨(r_w (l' := -2) (h' := 99) (r_n (x := (-1 : Int32)) (l := -1) (h := -1) (by decide) (by decide)) (by decide) (by decide)), (r_w (l' := 0) (h' := 2) (r_n (x := (1 : Int32)) (l := 1) (h := 1) (by decide) (by decide)) (by decide) (by decide))⟩
    · skip
      have r5 : R32 (0) (5) (p_p.2.2.2.2.2.2.1 - (1 : Int32)) := r_nlt1 (r_sub (l := -1) (h := 5) h_p_p_2_2_2_2_2_2_1 (r_n (x := (1 : Int32)) (l := 1) (h := 1) (by decide) (by decide)) (by decide) (by decide) (by decide) (by decide)) r3 c4
      have r6 : R32 (0) (5) k1 := r_nlt2 (r_sub (l := -1) (h := 5) h_p_p_2_2_2_2_2_2_1 (r_n (x := (1 : Int32)) (l := 1) (h := 1) (by decide) (by decide)) (by decide) (by decide) (by decide) (by decide)) r3 c4
      refine tp_nl ?_
      refine tp_nl ?_
      refine tp_niff (d_ne2 (r_n (x := (1 : Int32)) (l := 1) (h := 1) (by decide) (by decide)) (r_n (x := (0 : Int32)) (l := 0) (h := 0) (by decide) (by decide)) (by decide)) ?_
      refine tp_nl ?_
      refine tp_nift (d_eq (r_n (x := (0 : Int32)) (l := 0) (h := 0) (by decide) (by decide)) (r_n (x := (0 : Int32)) (l := 0) (h := 0) (by decide) (by decide))) ?_
      refine tp_nn ?_
      refine tp_e (f_X10_questionTrouble.eq_1 _ _ _ _) ?_
      refine tp_nn ?_
      refine tp_e (f_X6_hasSpot.eq_1 _ _) ?_
      refine tp_nn ?_
      refine tp_e (f_X10_within.eq_1 _ _ _) ?_
      refine tp_nif (fun c7 => ?_) (fun c7 => ?_)
      · skip
        have r8 : R32 (-2147483648) (-1) k2 := r_lt1 (by decide) (r_top _) (r_n (x := (0 : Int32)) (l := 0) (h := 0) (by decide) (by decide)) c7
        refine tp_nl ?_
        refine tp_nl ?_
        refine tp_nift (d_eq (r_n (x := (0 : Int32)) (l := 0) (h := 0) (by decide) (by decide)) (r_n (x := (0 : Int32)) (l := 0) (h := 0) (by decide) (by decide))) ?_
        refine tp_nl ?_
        refine tp_nl ?_
        refine tp_e (f_X10_refused.eq_1 _ _) ?_
        refine tp_niff (d_ne2 (r_n (x := (1 : Int32)) (l := 1) (h := 1) (by decide) (by decide)) (r_n (x := (0 : Int32)) (l := 0) (h := 0) (by decide) (by decide)) (by decide)) ?_
        refine tp_nl ?_
        refine tp_iff (d_ne2 (r_n (x := (1 : Int32)) (l := 1) (h := 1) (by decide) (by decide)) (r_n (x := (0 : Int32)) (l := 0) (h := 0) (by decide) (by decide)) (by decide)) ?_
        exact tp_s ⟨(r_w (l' := -2) (h' := 99) (r_n (x := (-1 : Int32)) (l := -1) (h := -1) (by decide) (by decide)) (by decide) (by decide)), (r_w (l' := 0) (h' := 2) (r_n (x := (1 : Int32)) (l := 1) (h := 1) (by decide) (by decide)) (by decide) (by decide))⟩
      · skip
        have r9 : R32 (0) (2147483647) k2 := r_nlt1 (r_top _) (r_n (x := (0 : Int32)) (l := 0) (h := 0) (by decide) (by decide)) c7
        refine tp_nif (fun c10 => ?_) (fun c10 => ?_)
        · skip
          refine tp_nl ?_
          refine tp_nl ?_
          refine tp_nift (d_eq (r_n (x := (0 : Int32)) (l := 0) (h := 0) (by decide) (by decide)) (r_n (x := (0 : Int32)) (l := 0) (h := 0) (by decide) (by decide))) ?_
          refine tp_nl ?_
          refine tp_nl ?_
          refine tp_e (f_X10_refused.eq_1 _ _) ?_
          refine tp_niff (d_ne2 (r_n (x := (1 : Int32)) (l := 1) (h := 1) (by decide) (by decide)) (r_n (x := (0 : Int32)) (l := 0) (h := 0) (by decide) (by decide)) (by decide)) ?_
          refine tp_nl ?_
          refine tp_iff (d_ne2 (r_n (x := (1 : Int32)) (l := 1) (h := 1) (by decide) (by decide)) (r_n (x := (0 : Int32)) (l := 0) (h := 0) (by decide) (by decide)) (by decide)) ?_
          exact tp_s ⟨(r_w (l' := -2) (h' := 99) (r_n (x := (-1 : Int32)) (l := -1) (h := -1) (by decide) (by decide)) (by decide) (by decide)), (r_w (l' := 0) (h' := 2) (r_n (x := (1 : Int32)) (l := 1) (h := 1) (by decide) (by decide)) (by decide) (by decide))⟩
        · skip
          have r11 : R32 (0) (7) (p_p.1 - (1 : Int32)) := r_nlt1 (r_sub (l := -1) (h := 7) h_p_p_1 (r_n (x := (1 : Int32)) (l := 1) (h := 1) (by decide) (by decide)) (by decide) (by decide) (by decide) (by decide)) r9 c10
          have r12 : R32 (0) (7) k2 := r_nlt2 (r_sub (l := -1) (h := 7) h_p_p_1 (r_n (x := (1 : Int32)) (l := 1) (h := 1) (by decide) (by decide)) (by decide) (by decide) (by decide) (by decide)) r9 c10
          refine tp_nl ?_
          refine tp_nl ?_
          refine tp_niff (d_ne2 (r_n (x := (1 : Int32)) (l := 1) (h := 1) (by decide) (by decide)) (r_n (x := (0 : Int32)) (l := 0) (h := 0) (by decide) (by decide)) (by decide)) ?_
          refine tp_nn ?_
          refine tp_e (f_X6_hasBait.eq_1 _ _) ?_
          refine tp_nn ?_
          refine tp_e (f_X10_within.eq_1 _ _ _) ?_
          refine tp_nif (fun c13 => ?_) (fun c13 => ?_)
          · skip
            have r14 : R32 (-2147483648) (-1) k4 := r_lt1 (by decide) (r_top _) (r_n (x := (0 : Int32)) (l := 0) (h := 0) (by decide) (by decide)) c13
            refine tp_nl ?_
            refine tp_nl ?_
            refine tp_nift (d_eq (r_n (x := (0 : Int32)) (l := 0) (h := 0) (by decide) (by decide)) (r_n (x := (0 : Int32)) (l := 0) (h := 0) (by decide) (by decide))) ?_
            refine tp_nl ?_
            refine tp_nl ?_
            refine tp_e (f_X10_refused.eq_1 _ _) ?_
            refine tp_niff (d_ne2 (r_n (x := (1 : Int32)) (l := 1) (h := 1) (by decide) (by decide)) (r_n (x := (0 : Int32)) (l := 0) (h := 0) (by decide) (by decide)) (by decide)) ?_
            refine tp_nl ?_
            refine tp_iff (d_ne2 (r_n (x := (1 : Int32)) (l := 1) (h := 1) (by decide) (by decide)) (r_n (x := (0 : Int32)) (l := 0) (h := 0) (by decide) (by decide)) (by decide)) ?_
            exact tp_s ⟨(r_w (l' := -2) (h' := 99) (r_n (x := (-1 : Int32)) (l := -1) (h := -1) (by decide) (by decide)) (by decide) (by decide)), (r_w (l' := 0) (h' := 2) (r_n (x := (1 : Int32)) (l := 1) (h := 1) (by decide) (by decide)) (by decide) (by decide))⟩
          · skip
            have r15 : R32 (0) (2147483647) k4 := r_nlt1 (r_top _) (r_n (x := (0 : Int32)) (l := 0) (h := 0) (by decide) (by decide)) c13
            refine tp_nif (fun c16 => ?_) (fun c16 => ?_)
            · skip
              refine tp_nl ?_
              refine tp_nl ?_
              refine tp_nift (d_eq (r_n (x := (0 : Int32)) (l := 0) (h := 0) (by decide) (by decide)) (r_n (x := (0 : Int32)) (l := 0) (h := 0) (by decide) (by decide))) ?_
              refine tp_nl ?_
              refine tp_nl ?_
              refine tp_e (f_X10_refused.eq_1 _ _) ?_
              refine tp_niff (d_ne2 (r_n (x := (1 : Int32)) (l := 1) (h := 1) (by decide) (by decide)) (r_n (x := (0 : Int32)) (l := 0) (h := 0) (by decide) (by decide)) (by decide)) ?_
              refine tp_nl ?_
              refine tp_iff (d_ne2 (r_n (x := (1 : Int32)) (l := 1) (h := 1) (by decide) (by decide)) (r_n (x := (0 : Int32)) (l := 0) (h := 0) (by decide) (by decide)) (by decide)) ?_
              exact tp_s ⟨(r_w (l' := -2) (h' := 99) (r_n (x := (-1 : Int32)) (l := -1) (h := -1) (by decide) (by decide)) (by decide) (by decide)), (r_w (l' := 0) (h' := 2) (r_n (x := (1 : Int32)) (l := 1) (h := 1) (by decide) (by decide)) (by decide) (by decide))⟩
            · skip
              have r17 : R32 (0) (3) (p_p.2.2.2.2.1 - (1 : Int32)) := r_nlt1 (r_sub (l := -1) (h := 3) h_p_p_2_2_2_2_1 (r_n (x := (1 : Int32)) (l := 1) (h := 1) (by decide) (by decide)) (by decide) (by decide) (by decide) (by decide)) r15 c16
              have r18 : R32 (0) (3) k4 := r_nlt2 (r_sub (l := -1) (h := 3) h_p_p_2_2_2_2_1 (r_n (x := (1 : Int32)) (l := 1) (h := 1) (by decide) (by decide)) (by decide) (by decide) (by decide) (by decide)) r15 c16
              refine tp_nl ?_
              refine tp_nl ?_
              refine tp_niff (d_ne2 (r_n (x := (1 : Int32)) (l := 1) (h := 1) (by decide) (by decide)) (r_n (x := (0 : Int32)) (l := 0) (h := 0) (by decide) (by decide)) (by decide)) ?_
              refine tp_nn ?_
              refine tp_e (f_X10_within.eq_1 _ _ _) ?_
              refine tp_nif (fun c19 => ?_) (fun c19 => ?_)
              · skip
                have r20 : R32 (-2147483648) (0) k3 := r_lt1 (by decide) (r_top _) (r_n (x := (1 : Int32)) (l := 1) (h := 1) (by decide) (by decide)) c19
                refine tp_nl ?_
                refine tp_nift (d_eq (r_n (x := (0 : Int32)) (l := 0) (h := 0) (by decide) (by decide)) (r_n (x := (0 : Int32)) (l := 0) (h := 0) (by decide) (by decide))) ?_
                refine tp_nl ?_
                refine tp_nl ?_
                refine tp_e (f_X10_refused.eq_1 _ _) ?_
                refine tp_niff (d_ne2 (r_n (x := (2 : Int32)) (l := 2) (h := 2) (by decide) (by decide)) (r_n (x := (0 : Int32)) (l := 0) (h := 0) (by decide) (by decide)) (by decide)) ?_
                refine tp_nl ?_
                refine tp_iff (d_ne2 (r_n (x := (1 : Int32)) (l := 1) (h := 1) (by decide) (by decide)) (r_n (x := (0 : Int32)) (l := 0) (h := 0) (by decide) (by decide)) (by decide)) ?_
                exact tp_s ⟨(r_w (l' := -2) (h' := 99) (r_n (x := (-1 : Int32)) (l := -1) (h := -1) (by decide) (by decide)) (by decide) (by decide)), (r_w (l' := 0) (h' := 2) (r_n (x := (2 : Int32)) (l := 2) (h := 2) (by decide) (by decide)) (by decide) (by decide))⟩
              · skip
                have r21 : R32 (1) (2147483647) k3 := r_nlt1 (r_top _) (r_n (x := (1 : Int32)) (l := 1) (h := 1) (by decide) (by decide)) c19
                refine tp_nif (fun c22 => ?_) (fun c22 => ?_)
                · skip
                  refine tp_nl ?_
                  refine tp_nift (d_eq (r_n (x := (0 : Int32)) (l := 0) (h := 0) (by decide) (by decide)) (r_n (x := (0 : Int32)) (l := 0) (h := 0) (by decide) (by decide))) ?_
                  refine tp_nl ?_
                  refine tp_nl ?_
                  refine tp_e (f_X10_refused.eq_1 _ _) ?_
                  refine tp_niff (d_ne2 (r_n (x := (2 : Int32)) (l := 2) (h := 2) (by decide) (by decide)) (r_n (x := (0 : Int32)) (l := 0) (h := 0) (by decide) (by decide)) (by decide)) ?_
                  refine tp_nl ?_
                  refine tp_iff (d_ne2 (r_n (x := (1 : Int32)) (l := 1) (h := 1) (by decide) (by decide)) (r_n (x := (0 : Int32)) (l := 0) (h := 0) (by decide) (by decide)) (by decide)) ?_
                  exact tp_s ⟨(r_w (l' := -2) (h' := 99) (r_n (x := (-1 : Int32)) (l := -1) (h := -1) (by decide) (by decide)) (by decide) (by decide)), (r_w (l' := 0) (h' := 2) (r_n (x := (2 : Int32)) (l := 2) (h := 2) (by decide) (by decide)) (by decide) (by decide))⟩
                · skip
                  have r23 : R32 (1) (9) p_p.2.1 := r_nlt1 h_p_p_2_1 r21 c22
                  have r24 : R32 (1) (9) k3 := r_nlt2 h_p_p_2_1 r21 c22
                  refine tp_nl ?_
                  refine tp_niff (d_ne2 (r_n (x := (1 : Int32)) (l := 1) (h := 1) (by decide) (by decide)) (r_n (x := (0 : Int32)) (l := 0) (h := 0) (by decide) (by decide)) (by decide)) ?_
                  refine tp_nl ?_
                  refine tp_nl ?_
                  refine tp_e (f_X10_refused.eq_1 _ _) ?_
                  refine tp_nift (d_eq (r_n (x := (0 : Int32)) (l := 0) (h := 0) (by decide) (by decide)) (r_n (x := (0 : Int32)) (l := 0) (h := 0) (by decide) (by decide))) ?_
                  refine tp_nl ?_
                  refine tp_ift (d_eq (r_n (x := (0 : Int32)) (l := 0) (h := 0) (by decide) (by decide)) (r_n (x := (0 : Int32)) (l := 0) (h := 0) (by decide) (by decide))) ?_
                  refine tp_e (f_X10_question.eq_1 _ _ _) ?_
                  refine tp_n (P := fun z => R32 (10) (793) z) (r_add (l := 10) (h := 793) (r_add (l := 10) (h := 790) (r_mul (l := 0) (h := 700) (r_n (x := (100 : Int32)) (l := 100) (h := 100) (by decide) (by decide)) r12 (by decide) (by decide) (by decide) (by decide) (by decide)) (r_mul (l := 10) (h := 90) (r_n (x := (10 : Int32)) (l := 10) (h := 10) (by decide) (by decide)) r24 (by decide) (by decide) (by decide) (by decide) (by decide)) (by decide) (by decide) (by decide) (by decide)) r18 (by decide) (by decide) (by decide) (by decide)) (fun o22 h25 => ?_)
                  exact t_f_X10_hungerFor_L30 r6 h_p_p_1 r23 h_p_p_2_2_2_2_1 h_p_p_2_2_2_2_2_1 h_p_p_2_2_2_2_2_2_1 h_p_p_2_2_2_2_2_2_2_1 (r_n (x := (0 : Int32)) (l := 0) (h := 0) (by decide) (by decide)) (r_n (x := (0 : Int32)) (l := 0) (h := 0) (by decide) (by decide)) h25 FU _ (r_w (l' := 0) (h' := 100) (r_n (x := (0 : Int32)) (l := 0) (h := 0) (by decide) (by decide)) (by decide) (by decide)) (fu_up (r_w (l' := 0) (h' := 100) (r_n (x := (0 : Int32)) (l := 0) (h := 0) (by decide) (by decide)) (by decide) (by decide)) (by decide))
theorem t_f_X10_freeSpots_J51 {k18_ : Int32 → Int32 → Option (Int32 × TX10_x)} {v18_l3 : Int32} {v51_l2 : Int32} {N18 : Nat} (hk18 : ∀ (v18_l3 : Int32) (v18_l2 : Int32), R32 (0) (8) v18_l3 → R32 (0) (255) v18_l2 → (8 : Int) - v18_l3.toInt < (N18 : Nat) → TotP (k18_ v18_l3 v18_l2) (fun (r : Int32 × TX10_x) => R32 (-1) (255) r.1 ∧ R32 (0) (1) r.2.1)) (hm18 : (8 : Int) - v18_l3.toInt < ((N18 + 1 : Nat) : Int)) (h_v18_l3 : R32 (0) (7) v18_l3) (h_v51_l2 : R32 (0) (255) v51_l2) : TotP (f_X10_freeSpots_J51 k18_ v18_l3 v51_l2) (fun (r : Int32 × TX10_x) => R32 (-1) (255) r.1 ∧ R32 (0) (1) r.2.1) := by
  unfold f_X10_freeSpots_J51
  exact hk18 _ _ (r_w (l' := 0) (h' := 8) (r_add (l := 1) (h := 8) h_v18_l3 (r_n (x := (1 : Int32)) (l := 1) (h := 1) (by decide) (by decide)) (by decide) (by decide) (by decide) (by decide)) (by decide) (by decide)) h_v51_l2 (ms_up (y := (1 : Int32)) h_v18_l3 (by decide) (by decide) (by decide) hm18)
theorem t_f_X10_freeSpots_L18 {k1 : Int32} {p_p : TX6_p} {n_n : TX4_n} {o6 : (Int32 × TX10_x)} (h_k1 : R32 (0) (4) k1) (h_p_p_1 : R32 (0) (8) p_p.1) (h_p_p_2_1 : R32 (0) (9) p_p.2.1) (h_p_p_2_2_2_2_1 : R32 (0) (4) p_p.2.2.2.2.1) (h_p_p_2_2_2_2_2_1 : R32 (0) (5) p_p.2.2.2.2.2.1) (h_p_p_2_2_2_2_2_2_1 : R32 (0) (6) p_p.2.2.2.2.2.2.1) (h_p_p_2_2_2_2_2_2_2_1 : R32 (0) (6) p_p.2.2.2.2.2.2.2.1) (h_o6_1 : R32 (0) (0) o6.1) (h_o6_2_1 : R32 (0) (0) o6.2.1) : ∀ (n : Nat) (v18_l3 : Int32) (v18_l2 : Int32), R32 (0) (8) v18_l3 → R32 (0) (255) v18_l2 → (8 : Int) - v18_l3.toInt < (n : Int) → TotP (f_X10_freeSpots_L18 k1 p_p n_n o6 n v18_l3 v18_l2) (fun (r : Int32 × TX10_x) => R32 (-1) (255) r.1 ∧ R32 (0) (1) r.2.1) := by
  intro n
  induction n with
  | zero =>
    intro v18_l3 v18_l2 h_v18_l3 h_v18_l2 hm
    exact (ms_0u h_v18_l3 hm).elim
  | succ n ih =>
    intro v18_l3 v18_l2 h_v18_l3 h_v18_l2 hm
    rw [f_X10_freeSpots_L18]
    refine tp_if (fun c1 => ?_) (fun c1 => ?_)
    · skip
      exact tp_s ⟨(r_w (l' := -1) (h' := 255) h_v18_l2 (by decide) (by decide)), (r_w (l' := 0) (h' := 1) h_o6_2_1 (by decide) (by decide))⟩
    · skip
      have r2 : R32 (1) (8) p_p.1 := r_nle1 (by decide) h_p_p_1 h_v18_l3 c1
      have r3 : R32 (0) (7) v18_l3 := r_nle2 (by decide) h_p_p_1 h_v18_l3 c1
      refine tp_b (t_f_X4_isTangled h_k1 (r_w (l' := 0) (h' := 8) r2 (by decide) (by decide)) h_p_p_2_1 h_p_p_2_2_2_2_1 h_p_p_2_2_2_2_2_1 h_p_p_2_2_2_2_2_2_1 h_p_p_2_2_2_2_2_2_2_1) (fun o39 h4 => ?_)
      refine tp_if (fun c5 => ?_) (fun c5 => ?_)
      · skip
        have r6 : R32 (0) (0) o39 := r_eq1 (l := 0) (h := 0) (by decide) (by decide) h4 (r_n (x := (0 : Int32)) (l := 0) (h := 0) (by decide) (by decide)) c5
        exact t_f_X10_freeSpots_J51 ih hm r3 (r_or 8 255 h_v18_l2 (r_shl 0 7 (l := 1) (h := 128) r3 (by decide) (by decide) (by decide)) (by decide) (by decide) (by decide) (by decide) (by decide))
      · skip
        have r7 : R32 (1) (1) o39 := r_neL (by decide) h4 (r_n (x := (0 : Int32)) (l := 0) (h := 0) (by decide) (by decide)) c5
        exact t_f_X10_freeSpots_J51 ih hm r3 h_v18_l2
theorem t_f_X10_freeSpots {k1 : Int32} {x_x : TX10_x} {p_p : TX6_p} {n_n : TX4_n} (h_p_p_1 : R32 (0) (8) p_p.1) (h_p_p_2_1 : R32 (0) (9) p_p.2.1) (h_p_p_2_2_2_2_1 : R32 (0) (4) p_p.2.2.2.2.1) (h_p_p_2_2_2_2_2_1 : R32 (0) (5) p_p.2.2.2.2.2.1) (h_p_p_2_2_2_2_2_2_1 : R32 (0) (6) p_p.2.2.2.2.2.2.1) (h_p_p_2_2_2_2_2_2_2_1 : R32 (0) (6) p_p.2.2.2.2.2.2.2.1) : TotP (f_X10_freeSpots k1 x_x p_p n_n) (fun (r : Int32 × TX10_x) => R32 (-1) (255) r.1 ∧ R32 (0) (1) r.2.1) := by
  unfold f_X10_freeSpots
  refine tp_e (f_X10_askerTrouble.eq_1 _ _) ?_
  refine tp_nn ?_
  refine tp_e (f_X6_hasAsker.eq_1 _ _) ?_
  refine tp_nn ?_
  refine tp_e (f_X10_within.eq_1 _ _ _) ?_
  refine tp_nif (fun c1 => ?_) (fun c1 => ?_)
  · skip
    have r2 : R32 (-2147483648) (-1) k1 := r_lt1 (by decide) (r_top _) (r_n (x := (0 : Int32)) (l := 0) (h := 0) (by decide) (by decide)) c1
    refine tp_nl ?_
    refine tp_nl ?_
    refine tp_nift (d_eq (r_n (x := (0 : Int32)) (l := 0) (h := 0) (by decide) (by decide)) (r_n (x := (0 : Int32)) (l := 0) (h := 0) (by decide) (by decide))) ?_
    refine tp_nl ?_
    refine tp_e (f_X10_refused.eq_1 _ _) ?_
    refine tp_niff (d_ne2 (r_n (x := (1 : Int32)) (l := 1) (h := 1) (by decide) (by decide)) (r_n (x := (0 : Int32)) (l := 0) (h := 0) (by decide) (by decide)) (by decide)) ?_
    refine tp_nl ?_
    refine tp_iff (d_ne2 (r_n (x := (1 : Int32)) (l := 1) (h := 1) (by decide) (by decide)) (r_n (x := (0 : Int32)) (l := 0) (h := 0) (by decide) (by decide)) (by decide)) ?_
    exact tp_s ⟨(r_w (l' := -1) (h' := 255) (r_n (x := (-1 : Int32)) (l := -1) (h := -1) (by decide) (by decide)) (by decide) (by decide)), (r_w (l' := 0) (h' := 1) (r_n (x := (1 : Int32)) (l := 1) (h := 1) (by decide) (by decide)) (by decide) (by decide))⟩
  · skip
    have r3 : R32 (0) (2147483647) k1 := r_nlt1 (r_top _) (r_n (x := (0 : Int32)) (l := 0) (h := 0) (by decide) (by decide)) c1
    refine tp_nif (fun c4 => ?_) (fun c4 => ?_)
    · skip
      refine tp_nl ?_
      refine tp_nl ?_
      refine tp_nift (d_eq (r_n (x := (0 : Int32)) (l := 0) (h := 0) (by decide) (by decide)) (r_n (x := (0 : Int32)) (l := 0) (h := 0) (by decide) (by decide))) ?_
      refine tp_nl ?_
      refine tp_e (f_X10_refused.eq_1 _ _) ?_
      refine tp_niff (d_ne2 (r_n (x := (1 : Int32)) (l := 1) (h := 1) (by decide) (by decide)) (r_n (x := (0 : Int32)) (l := 0) (h := 0) (by decide) (by decide)) (by decide)) ?_
      refine tp_nl ?_
      refine tp_iff (d_ne2 (r_n (x := (1 : Int32)) (l := 1) (h := 1) (by decide) (by decide)) (r_n (x := (0 : Int32)) (l := 0) (h := 0) (by decide) (by decide)) (by decide)) ?_
      exact tp_s ⟨(r_w (l' := -1) (h' := 255) (r_n (x := (-1 : Int32)) (l := -1) (h := -1) (by decide) (by decide)) (by decide) (by decide)), (r_w (l' := 0) (h' := 1) (r_n (x := (1 : Int32)) (l := 1) (h := 1) (by decide) (by decide)) (by decide) (by decide))⟩
    · skip
      have r5 : R32 (0) (4) (p_p.2.2.2.2.2.1 - (1 : Int32)) := r_nlt1 (r_sub (l := -1) (h := 4) h_p_p_2_2_2_2_2_1 (r_n (x := (1 : Int32)) (l := 1) (h := 1) (by decide) (by decide)) (by decide) (by decide) (by decide) (by decide)) r3 c4
      have r6 : R32 (0) (4) k1 := r_nlt2 (r_sub (l := -1) (h := 4) h_p_p_2_2_2_2_2_1 (r_n (x := (1 : Int32)) (l := 1) (h := 1) (by decide) (by decide)) (by decide) (by decide) (by decide) (by decide)) r3 c4
      refine tp_nl ?_
      refine tp_nl ?_
      refine tp_niff (d_ne2 (r_n (x := (1 : Int32)) (l := 1) (h := 1) (by decide) (by decide)) (r_n (x := (0 : Int32)) (l := 0) (h := 0) (by decide) (by decide)) (by decide)) ?_
      refine tp_nl ?_
      refine tp_e (f_X10_refused.eq_1 _ _) ?_
      refine tp_nift (d_eq (r_n (x := (0 : Int32)) (l := 0) (h := 0) (by decide) (by decide)) (r_n (x := (0 : Int32)) (l := 0) (h := 0) (by decide) (by decide))) ?_
      refine tp_nl ?_
      refine tp_ift (d_eq (r_n (x := (0 : Int32)) (l := 0) (h := 0) (by decide) (by decide)) (r_n (x := (0 : Int32)) (l := 0) (h := 0) (by decide) (by decide))) ?_
      exact t_f_X10_freeSpots_L18 r6 h_p_p_1 h_p_p_2_1 h_p_p_2_2_2_2_1 h_p_p_2_2_2_2_2_1 h_p_p_2_2_2_2_2_2_1 h_p_p_2_2_2_2_2_2_2_1 (r_n (x := (0 : Int32)) (l := 0) (h := 0) (by decide) (by decide)) (r_n (x := (0 : Int32)) (l := 0) (h := 0) (by decide) (by decide)) FU _ _ (r_w (l' := 0) (h' := 8) (r_n (x := (0 : Int32)) (l := 0) (h := 0) (by decide) (by decide)) (by decide) (by decide)) (r_w (l' := 0) (h' := 255) (r_n (x := (0 : Int32)) (l := 0) (h := 0) (by decide) (by decide)) (by decide) (by decide)) (fu_up (r_w (l' := 0) (h' := 8) (r_n (x := (0 : Int32)) (l := 0) (h := 0) (by decide) (by decide)) (by decide) (by decide)) (by decide))
theorem t_f_X10_tangles {k1 : Int32} {k2 : Int32} {k3 : Int32} {k4 : Int32} {x_x : TX10_x} {p_p : TX6_p} (h_p_p_1 : R32 (0) (8) p_p.1) (h_p_p_2_1 : R32 (0) (9) p_p.2.1) (h_p_p_2_2_2_2_1 : R32 (0) (4) p_p.2.2.2.2.1) (h_p_p_2_2_2_2_2_1 : R32 (0) (5) p_p.2.2.2.2.2.1) (h_p_p_2_2_2_2_2_2_1 : R32 (0) (6) p_p.2.2.2.2.2.2.1) (h_p_p_2_2_2_2_2_2_2_1 : R32 (0) (6) p_p.2.2.2.2.2.2.2.1) : TotP (f_X10_tangles k1 k2 k3 k4 x_x p_p) (fun (r : Int32 × TX10_x) => R32 (-1) (1) r.1 ∧ R32 (0) (1) r.2.1) := by
  unfold f_X10_tangles
  refine tp_e (f_X6_hasAsker.eq_1 _ _) ?_
  refine tp_nn ?_
  refine tp_e (f_X10_within.eq_1 _ _ _) ?_
  refine tp_nif (fun c1 => ?_) (fun c1 => ?_)
  · skip
    have r2 : R32 (-2147483648) (-1) k1 := r_lt1 (by decide) (r_top _) (r_n (x := (0 : Int32)) (l := 0) (h := 0) (by decide) (by decide)) c1
    refine tp_nl ?_
    refine tp_nl ?_
    refine tp_ift (d_eq (r_n (x := (0 : Int32)) (l := 0) (h := 0) (by decide) (by decide)) (r_n (x := (0 : Int32)) (l := 0) (h := 0) (by decide) (by decide))) ?_
    refine tp_u (f_X10_tangles_J54.eq_1 _ _ _ _ _ _) ?_
    refine tp_u (f_X10_tangles_J55.eq_1 _ _ _ _ _ _ _) ?_
    refine tp_ift (d_eq (r_n (x := (0 : Int32)) (l := 0) (h := 0) (by decide) (by decide)) (r_n (x := (0 : Int32)) (l := 0) (h := 0) (by decide) (by decide))) ?_
    refine tp_u (f_X10_tangles_J68.eq_1 _ _ _ _ _ _ _) ?_
    refine tp_e (f_X10_refused.eq_1 _ _) ?_
    refine tp_niff (d_ne2 (r_n (x := (1 : Int32)) (l := 1) (h := 1) (by decide) (by decide)) (r_n (x := (0 : Int32)) (l := 0) (h := 0) (by decide) (by decide)) (by decide)) ?_
    refine tp_nl ?_
    refine tp_iff (d_ne2 (r_n (x := (1 : Int32)) (l := 1) (h := 1) (by decide) (by decide)) (r_n (x := (0 : Int32)) (l := 0) (h := 0) (by decide) (by decide)) (by decide)) ?_
    exact tp_s ⟨(r_w (l' := -1) (h' := 1) (r_n (x := (-1 : Int32)) (l := -1) (h := -1) (by decide) (by decide)) (by decide) (by decide)), (r_w (l' := 0) (h' := 1) (r_n (x := (1 : Int32)) (l := 1) (h := 1) (by decide) (by decide)) (by decide) (by decide))⟩
  · skip
    have r3 : R32 (0) (2147483647) k1 := r_nlt1 (r_top _) (r_n (x := (0 : Int32)) (l := 0) (h := 0) (by decide) (by decide)) c1
    refine tp_nif (fun c4 => ?_) (fun c4 => ?_)
    · skip
      refine tp_nl ?_
      refine tp_nl ?_
      refine tp_ift (d_eq (r_n (x := (0 : Int32)) (l := 0) (h := 0) (by decide) (by decide)) (r_n (x := (0 : Int32)) (l := 0) (h := 0) (by decide) (by decide))) ?_
      refine tp_u (f_X10_tangles_J54.eq_1 _ _ _ _ _ _) ?_
      refine tp_u (f_X10_tangles_J55.eq_1 _ _ _ _ _ _ _) ?_
      refine tp_ift (d_eq (r_n (x := (0 : Int32)) (l := 0) (h := 0) (by decide) (by decide)) (r_n (x := (0 : Int32)) (l := 0) (h := 0) (by decide) (by decide))) ?_
      refine tp_u (f_X10_tangles_J68.eq_1 _ _ _ _ _ _ _) ?_
      refine tp_e (f_X10_refused.eq_1 _ _) ?_
      refine tp_niff (d_ne2 (r_n (x := (1 : Int32)) (l := 1) (h := 1) (by decide) (by decide)) (r_n (x := (0 : Int32)) (l := 0) (h := 0) (by decide) (by decide)) (by decide)) ?_
      refine tp_nl ?_
      refine tp_iff (d_ne2 (r_n (x := (1 : Int32)) (l := 1) (h := 1) (by decide) (by decide)) (r_n (x := (0 : Int32)) (l := 0) (h := 0) (by decide) (by decide)) (by decide)) ?_
      exact tp_s ⟨(r_w (l' := -1) (h' := 1) (r_n (x := (-1 : Int32)) (l := -1) (h := -1) (by decide) (by decide)) (by decide) (by decide)), (r_w (l' := 0) (h' := 1) (r_n (x := (1 : Int32)) (l := 1) (h := 1) (by decide) (by decide)) (by decide) (by decide))⟩
    · skip
      have r5 : R32 (0) (4) (p_p.2.2.2.2.2.1 - (1 : Int32)) := r_nlt1 (r_sub (l := -1) (h := 4) h_p_p_2_2_2_2_2_1 (r_n (x := (1 : Int32)) (l := 1) (h := 1) (by decide) (by decide)) (by decide) (by decide) (by decide) (by decide)) r3 c4
      have r6 : R32 (0) (4) k1 := r_nlt2 (r_sub (l := -1) (h := 4) h_p_p_2_2_2_2_2_1 (r_n (x := (1 : Int32)) (l := 1) (h := 1) (by decide) (by decide)) (by decide) (by decide) (by decide) (by decide)) r3 c4
      refine tp_nl ?_
      refine tp_nl ?_
      refine tp_iff (d_ne2 (r_n (x := (1 : Int32)) (l := 1) (h := 1) (by decide) (by decide)) (r_n (x := (0 : Int32)) (l := 0) (h := 0) (by decide) (by decide)) (by decide)) ?_
      refine tp_e (f_X6_hasAsker.eq_1 _ _) ?_
      refine tp_nn ?_
      refine tp_e (f_X10_within.eq_1 _ _ _) ?_
      refine tp_nif (fun c7 => ?_) (fun c7 => ?_)
      · skip
        have r8 : R32 (-2147483648) (-1) k3 := r_lt1 (by decide) (r_top _) (r_n (x := (0 : Int32)) (l := 0) (h := 0) (by decide) (by decide)) c7
        refine tp_nl ?_
        refine tp_nl ?_
        refine tp_ift (d_eq (r_n (x := (0 : Int32)) (l := 0) (h := 0) (by decide) (by decide)) (r_n (x := (0 : Int32)) (l := 0) (h := 0) (by decide) (by decide))) ?_
        refine tp_u (f_X10_tangles_J54.eq_1 _ _ _ _ _ _) ?_
        refine tp_u (f_X10_tangles_J55.eq_1 _ _ _ _ _ _ _) ?_
        refine tp_ift (d_eq (r_n (x := (0 : Int32)) (l := 0) (h := 0) (by decide) (by decide)) (r_n (x := (0 : Int32)) (l := 0) (h := 0) (by decide) (by decide))) ?_
        refine tp_u (f_X10_tangles_J68.eq_1 _ _ _ _ _ _ _) ?_
        refine tp_e (f_X10_refused.eq_1 _ _) ?_
        refine tp_niff (d_ne2 (r_n (x := (1 : Int32)) (l := 1) (h := 1) (by decide) (by decide)) (r_n (x := (0 : Int32)) (l := 0) (h := 0) (by decide) (by decide)) (by decide)) ?_
        refine tp_nl ?_
        refine tp_iff (d_ne2 (r_n (x := (1 : Int32)) (l := 1) (h := 1) (by decide) (by decide)) (r_n (x := (0 : Int32)) (l := 0) (h := 0) (by decide) (by decide)) (by decide)) ?_
        exact tp_s ⟨(r_w (l' := -1) (h' := 1) (r_n (x := (-1 : Int32)) (l := -1) (h := -1) (by decide) (by decide)) (by decide) (by decide)), (r_w (l' := 0) (h' := 1) (r_n (x := (1 : Int32)) (l := 1) (h := 1) (by decide) (by decide)) (by decide) (by decide))⟩
      · skip
        have r9 : R32 (0) (2147483647) k3 := r_nlt1 (r_top _) (r_n (x := (0 : Int32)) (l := 0) (h := 0) (by decide) (by decide)) c7
        refine tp_nif (fun c10 => ?_) (fun c10 => ?_)
        · skip
          have r11 : R32 (1) (2147483647) k3 := r_lt2 (by decide) r5 r9 c10
          refine tp_nl ?_
          refine tp_nl ?_
          refine tp_ift (d_eq (r_n (x := (0 : Int32)) (l := 0) (h := 0) (by decide) (by decide)) (r_n (x := (0 : Int32)) (l := 0) (h := 0) (by decide) (by decide))) ?_
          refine tp_u (f_X10_tangles_J54.eq_1 _ _ _ _ _ _) ?_
          refine tp_u (f_X10_tangles_J55.eq_1 _ _ _ _ _ _ _) ?_
          refine tp_ift (d_eq (r_n (x := (0 : Int32)) (l := 0) (h := 0) (by decide) (by decide)) (r_n (x := (0 : Int32)) (l := 0) (h := 0) (by decide) (by decide))) ?_
          refine tp_u (f_X10_tangles_J68.eq_1 _ _ _ _ _ _ _) ?_
          refine tp_e (f_X10_refused.eq_1 _ _) ?_
          refine tp_niff (d_ne2 (r_n (x := (1 : Int32)) (l := 1) (h := 1) (by decide) (by decide)) (r_n (x := (0 : Int32)) (l := 0) (h := 0) (by decide) (by decide)) (by decide)) ?_
          refine tp_nl ?_
          refine tp_iff (d_ne2 (r_n (x := (1 : Int32)) (l := 1) (h := 1) (by decide) (by decide)) (r_n (x := (0 : Int32)) (l := 0) (h := 0) (by decide) (by decide)) (by decide)) ?_
          exact tp_s ⟨(r_w (l' := -1) (h' := 1) (r_n (x := (-1 : Int32)) (l := -1) (h := -1) (by decide) (by decide)) (by decide) (by decide)), (r_w (l' := 0) (h' := 1) (r_n (x := (1 : Int32)) (l := 1) (h := 1) (by decide) (by decide)) (by decide) (by decide))⟩
        · skip
          have r12 : R32 (0) (4) k3 := r_nlt2 r5 r9 c10
          refine tp_nl ?_
          refine tp_nl ?_
          refine tp_iff (d_ne2 (r_n (x := (1 : Int32)) (l := 1) (h := 1) (by decide) (by decide)) (r_n (x := (0 : Int32)) (l := 0) (h := 0) (by decide) (by decide)) (by decide)) ?_
          refine tp_if (fun c13 => ?_) (fun c13 => ?_)
          · skip
            refine tp_u (f_X10_tangles_J54.eq_1 _ _ _ _ _ _) ?_
            refine tp_u (f_X10_tangles_J55.eq_1 _ _ _ _ _ _ _) ?_
            refine tp_ift (d_eq (r_n (x := (0 : Int32)) (l := 0) (h := 0) (by decide) (by decide)) (r_n (x := (0 : Int32)) (l := 0) (h := 0) (by decide) (by decide))) ?_
            refine tp_u (f_X10_tangles_J68.eq_1 _ _ _ _ _ _ _) ?_
            refine tp_e (f_X10_refused.eq_1 _ _) ?_
            refine tp_niff (d_ne2 (r_n (x := (1 : Int32)) (l := 1) (h := 1) (by decide) (by decide)) (r_n (x := (0 : Int32)) (l := 0) (h := 0) (by decide) (by decide)) (by decide)) ?_
            refine tp_nl ?_
            refine tp_iff (d_ne2 (r_n (x := (1 : Int32)) (l := 1) (h := 1) (by decide) (by decide)) (r_n (x := (0 : Int32)) (l := 0) (h := 0) (by decide) (by decide)) (by decide)) ?_
            exact tp_s ⟨(r_w (l' := -1) (h' := 1) (r_n (x := (-1 : Int32)) (l := -1) (h := -1) (by decide) (by decide)) (by decide) (by decide)), (r_w (l' := 0) (h' := 1) (r_n (x := (1 : Int32)) (l := 1) (h := 1) (by decide) (by decide)) (by decide) (by decide))⟩
          · skip
            refine tp_e (f_X6_hasSpot.eq_1 _ _) ?_
            refine tp_nn ?_
            refine tp_e (f_X10_within.eq_1 _ _ _) ?_
            refine tp_nif (fun c14 => ?_) (fun c14 => ?_)
            · skip
              have r15 : R32 (-2147483648) (-1) k2 := r_lt1 (by decide) (r_top _) (r_n (x := (0 : Int32)) (l := 0) (h := 0) (by decide) (by decide)) c14
              refine tp_nl ?_
              refine tp_nl ?_
              refine tp_ift (d_eq (r_n (x := (0 : Int32)) (l := 0) (h := 0) (by decide) (by decide)) (r_n (x := (0 : Int32)) (l := 0) (h := 0) (by decide) (by decide))) ?_
              refine tp_u (f_X10_tangles_J54.eq_1 _ _ _ _ _ _) ?_
              refine tp_u (f_X10_tangles_J55.eq_1 _ _ _ _ _ _ _) ?_
              refine tp_ift (d_eq (r_n (x := (0 : Int32)) (l := 0) (h := 0) (by decide) (by decide)) (r_n (x := (0 : Int32)) (l := 0) (h := 0) (by decide) (by decide))) ?_
              refine tp_u (f_X10_tangles_J68.eq_1 _ _ _ _ _ _ _) ?_
              refine tp_e (f_X10_refused.eq_1 _ _) ?_
              refine tp_niff (d_ne2 (r_n (x := (1 : Int32)) (l := 1) (h := 1) (by decide) (by decide)) (r_n (x := (0 : Int32)) (l := 0) (h := 0) (by decide) (by decide)) (by decide)) ?_
              refine tp_nl ?_
              refine tp_iff (d_ne2 (r_n (x := (1 : Int32)) (l := 1) (h := 1) (by decide) (by decide)) (r_n (x := (0 : Int32)) (l := 0) (h := 0) (by decide) (by decide)) (by decide)) ?_
              exact tp_s ⟨(r_w (l' := -1) (h' := 1) (r_n (x := (-1 : Int32)) (l := -1) (h := -1) (by decide) (by decide)) (by decide) (by decide)), (r_w (l' := 0) (h' := 1) (r_n (x := (1 : Int32)) (l := 1) (h := 1) (by decide) (by decide)) (by decide) (by decide))⟩
            · skip
              have r16 : R32 (0) (2147483647) k2 := r_nlt1 (r_top _) (r_n (x := (0 : Int32)) (l := 0) (h := 0) (by decide) (by decide)) c14
              refine tp_nif (fun c17 => ?_) (fun c17 => ?_)
              · skip
                refine tp_nl ?_
                refine tp_nl ?_
                refine tp_ift (d_eq (r_n (x := (0 : Int32)) (l := 0) (h := 0) (by decide) (by decide)) (r_n (x := (0 : Int32)) (l := 0) (h := 0) (by decide) (by decide))) ?_
                refine tp_u (f_X10_tangles_J54.eq_1 _ _ _ _ _ _) ?_
                refine tp_u (f_X10_tangles_J55.eq_1 _ _ _ _ _ _ _) ?_
                refine tp_ift (d_eq (r_n (x := (0 : Int32)) (l := 0) (h := 0) (by decide) (by decide)) (r_n (x := (0 : Int32)) (l := 0) (h := 0) (by decide) (by decide))) ?_
                refine tp_u (f_X10_tangles_J68.eq_1 _ _ _ _ _ _ _) ?_
                refine tp_e (f_X10_refused.eq_1 _ _) ?_
                refine tp_niff (d_ne2 (r_n (x := (1 : Int32)) (l := 1) (h := 1) (by decide) (by decide)) (r_n (x := (0 : Int32)) (l := 0) (h := 0) (by decide) (by decide)) (by decide)) ?_
                refine tp_nl ?_
                refine tp_iff (d_ne2 (r_n (x := (1 : Int32)) (l := 1) (h := 1) (by decide) (by decide)) (r_n (x := (0 : Int32)) (l := 0) (h := 0) (by decide) (by decide)) (by decide)) ?_
                exact tp_s ⟨(r_w (l' := -1) (h' := 1) (r_n (x := (-1 : Int32)) (l := -1) (h := -1) (by decide) (by decide)) (by decide) (by decide)), (r_w (l' := 0) (h' := 1) (r_n (x := (1 : Int32)) (l := 1) (h := 1) (by decide) (by decide)) (by decide) (by decide))⟩
              · skip
                have r18 : R32 (0) (7) (p_p.1 - (1 : Int32)) := r_nlt1 (r_sub (l := -1) (h := 7) h_p_p_1 (r_n (x := (1 : Int32)) (l := 1) (h := 1) (by decide) (by decide)) (by decide) (by decide) (by decide) (by decide)) r16 c17
                have r19 : R32 (0) (7) k2 := r_nlt2 (r_sub (l := -1) (h := 7) h_p_p_1 (r_n (x := (1 : Int32)) (l := 1) (h := 1) (by decide) (by decide)) (by decide) (by decide) (by decide) (by decide)) r16 c17
                refine tp_nl ?_
                refine tp_nl ?_
                refine tp_iff (d_ne2 (r_n (x := (1 : Int32)) (l := 1) (h := 1) (by decide) (by decide)) (r_n (x := (0 : Int32)) (l := 0) (h := 0) (by decide) (by decide)) (by decide)) ?_
                refine tp_e (f_X6_hasSpot.eq_1 _ _) ?_
                refine tp_nn ?_
                refine tp_e (f_X10_within.eq_1 _ _ _) ?_
                refine tp_nif (fun c20 => ?_) (fun c20 => ?_)
                · skip
                  have r21 : R32 (-2147483648) (-1) k4 := r_lt1 (by decide) (r_top _) (r_n (x := (0 : Int32)) (l := 0) (h := 0) (by decide) (by decide)) c20
                  refine tp_nl ?_
                  refine tp_nl ?_
                  refine tp_ift (d_eq (r_n (x := (0 : Int32)) (l := 0) (h := 0) (by decide) (by decide)) (r_n (x := (0 : Int32)) (l := 0) (h := 0) (by decide) (by decide))) ?_
                  refine tp_u (f_X10_tangles_J54.eq_1 _ _ _ _ _ _) ?_
                  refine tp_u (f_X10_tangles_J55.eq_1 _ _ _ _ _ _ _) ?_
                  refine tp_ift (d_eq (r_n (x := (0 : Int32)) (l := 0) (h := 0) (by decide) (by decide)) (r_n (x := (0 : Int32)) (l := 0) (h := 0) (by decide) (by decide))) ?_
                  refine tp_u (f_X10_tangles_J68.eq_1 _ _ _ _ _ _ _) ?_
                  refine tp_e (f_X10_refused.eq_1 _ _) ?_
                  refine tp_niff (d_ne2 (r_n (x := (1 : Int32)) (l := 1) (h := 1) (by decide) (by decide)) (r_n (x := (0 : Int32)) (l := 0) (h := 0) (by decide) (by decide)) (by decide)) ?_
                  refine tp_nl ?_
                  refine tp_iff (d_ne2 (r_n (x := (1 : Int32)) (l := 1) (h := 1) (by decide) (by decide)) (r_n (x := (0 : Int32)) (l := 0) (h := 0) (by decide) (by decide)) (by decide)) ?_
                  exact tp_s ⟨(r_w (l' := -1) (h' := 1) (r_n (x := (-1 : Int32)) (l := -1) (h := -1) (by decide) (by decide)) (by decide) (by decide)), (r_w (l' := 0) (h' := 1) (r_n (x := (1 : Int32)) (l := 1) (h := 1) (by decide) (by decide)) (by decide) (by decide))⟩
                · skip
                  have r22 : R32 (0) (2147483647) k4 := r_nlt1 (r_top _) (r_n (x := (0 : Int32)) (l := 0) (h := 0) (by decide) (by decide)) c20
                  refine tp_nif (fun c23 => ?_) (fun c23 => ?_)
                  · skip
                    have r24 : R32 (1) (2147483647) k4 := r_lt2 (by decide) r18 r22 c23
                    refine tp_nl ?_
                    refine tp_nl ?_
                    refine tp_ift (d_eq (r_n (x := (0 : Int32)) (l := 0) (h := 0) (by decide) (by decide)) (r_n (x := (0 : Int32)) (l := 0) (h := 0) (by decide) (by decide))) ?_
                    refine tp_u (f_X10_tangles_J54.eq_1 _ _ _ _ _ _) ?_
                    refine tp_u (f_X10_tangles_J55.eq_1 _ _ _ _ _ _ _) ?_
                    refine tp_ift (d_eq (r_n (x := (0 : Int32)) (l := 0) (h := 0) (by decide) (by decide)) (r_n (x := (0 : Int32)) (l := 0) (h := 0) (by decide) (by decide))) ?_
                    refine tp_u (f_X10_tangles_J68.eq_1 _ _ _ _ _ _ _) ?_
                    refine tp_e (f_X10_refused.eq_1 _ _) ?_
                    refine tp_niff (d_ne2 (r_n (x := (1 : Int32)) (l := 1) (h := 1) (by decide) (by decide)) (r_n (x := (0 : Int32)) (l := 0) (h := 0) (by decide) (by decide)) (by decide)) ?_
                    refine tp_nl ?_
                    refine tp_iff (d_ne2 (r_n (x := (1 : Int32)) (l := 1) (h := 1) (by decide) (by decide)) (r_n (x := (0 : Int32)) (l := 0) (h := 0) (by decide) (by decide)) (by decide)) ?_
                    exact tp_s ⟨(r_w (l' := -1) (h' := 1) (r_n (x := (-1 : Int32)) (l := -1) (h := -1) (by decide) (by decide)) (by decide) (by decide)), (r_w (l' := 0) (h' := 1) (r_n (x := (1 : Int32)) (l := 1) (h := 1) (by decide) (by decide)) (by decide) (by decide))⟩
                  · skip
                    have r25 : R32 (0) (7) k4 := r_nlt2 r18 r22 c23
                    refine tp_nl ?_
                    refine tp_nl ?_
                    refine tp_iff (d_ne2 (r_n (x := (1 : Int32)) (l := 1) (h := 1) (by decide) (by decide)) (r_n (x := (0 : Int32)) (l := 0) (h := 0) (by decide) (by decide)) (by decide)) ?_
                    refine tp_u (f_X10_tangles_J55.eq_1 _ _ _ _ _ _ _) ?_
                    refine tp_iff (d_ne2 (r_n (x := (1 : Int32)) (l := 1) (h := 1) (by decide) (by decide)) (r_n (x := (0 : Int32)) (l := 0) (h := 0) (by decide) (by decide)) (by decide)) ?_
                    refine tp_u (f_X10_tangles_J68.eq_1 _ _ _ _ _ _ _) ?_
                    refine tp_e (f_X10_refused.eq_1 _ _) ?_
                    refine tp_nift (d_eq (r_n (x := (0 : Int32)) (l := 0) (h := 0) (by decide) (by decide)) (r_n (x := (0 : Int32)) (l := 0) (h := 0) (by decide) (by decide))) ?_
                    refine tp_nl ?_
                    refine tp_ift (d_eq (r_n (x := (0 : Int32)) (l := 0) (h := 0) (by decide) (by decide)) (r_n (x := (0 : Int32)) (l := 0) (h := 0) (by decide) (by decide))) ?_
                    refine tp_b (t_f_X6_isTangle r6 r12 h_p_p_1 h_p_p_2_1 h_p_p_2_2_2_2_1 h_p_p_2_2_2_2_2_1 h_p_p_2_2_2_2_2_2_1 h_p_p_2_2_2_2_2_2_2_1) (fun o85 h26 => ?_)
                    refine tp_if (fun c27 => ?_) (fun c27 => ?_)
                    · skip
                      have r28 : R32 (0) (0) o85 := r_eq1 (l := 0) (h := 0) (by decide) (by decide) h26 (r_n (x := (0 : Int32)) (l := 0) (h := 0) (by decide) (by decide)) c27
                      exact tp_s ⟨(r_w (l' := -1) (h' := 1) (r_n (x := (0 : Int32)) (l := 0) (h := 0) (by decide) (by decide)) (by decide) (by decide)), (r_w (l' := 0) (h' := 1) (r_n (x := (0 : Int32)) (l := 0) (h := 0) (by decide) (by decide)) (by decide) (by decide))⟩
                    · skip
                      have r29 : R32 (1) (1) o85 := r_neL (by decide) h26 (r_n (x := (0 : Int32)) (l := 0) (h := 0) (by decide) (by decide)) c27
                      exact tp_s ⟨(r_w (l' := -1) (h' := 1) (r_n (x := (1 : Int32)) (l := 1) (h := 1) (by decide) (by decide)) (by decide) (by decide)), (r_w (l' := 0) (h' := 1) (r_n (x := (0 : Int32)) (l := 0) (h := 0) (by decide) (by decide)) (by decide) (by decide))⟩
theorem t_f_X8_isFree_J40 {k3_ : Int32 → Option Int32} {v3_l4 : Int32} {N3 : Nat} (hk3 : ∀ (v3_l4 : Int32), R32 (0) (4) v3_l4 → (4 : Int) - v3_l4.toInt < (N3 : Nat) → TotP (k3_ v3_l4) (fun (r : Int32) => R32 (0) (1) r)) (hm3 : (4 : Int) - v3_l4.toInt < ((N3 + 1 : Nat) : Int)) (h_v3_l4 : R32 (0) (3) v3_l4) : TotP (f_X8_isFree_J40 k3_ v3_l4) (fun (r : Int32) => R32 (0) (1) r) := by
  unfold f_X8_isFree_J40
  exact hk3 _ (r_w (l' := 0) (h' := 4) (r_add (l := 1) (h := 4) h_v3_l4 (r_n (x := (1 : Int32)) (l := 1) (h := 1) (by decide) (by decide)) (by decide) (by decide) (by decide) (by decide)) (by decide) (by decide)) (ms_up (y := (1 : Int32)) h_v3_l4 (by decide) (by decide) (by decide) hm3)
theorem t_f_X8_isFree_L3 {k2 : Int32} {k3 : Int32} {s_s : TX8_s} {p_p : TX6_p} (h_k2 : R32 (0) (4) k2) (h_k3 : R32 (0) (7) k3) (h_s_s_2_2 : R32 (0) (6719) s_s.2.2) (h_p_p_1 : R32 (1) (8) p_p.1) (h_p_p_2_1 : R32 (0) (9) p_p.2.1) (h_p_p_2_2_2_2_1 : R32 (0) (4) p_p.2.2.2.2.1) (h_p_p_2_2_2_2_2_1 : R32 (1) (5) p_p.2.2.2.2.2.1) (h_p_p_2_2_2_2_2_2_1 : R32 (0) (6) p_p.2.2.2.2.2.2.1) (h_p_p_2_2_2_2_2_2_2_1 : R32 (0) (6) p_p.2.2.2.2.2.2.2.1) : ∀ (n : Nat) (v3_l4 : Int32), R32 (0) (4) v3_l4 → (4 : Int) - v3_l4.toInt < (n : Int) → TotP (f_X8_isFree_L3 k2 k3 s_s p_p n v3_l4) (fun (r : Int32) => R32 (0) (1) r) := by
  intro n
  induction n with
  | zero =>
    intro v3_l4 h_v3_l4 hm
    exact (ms_0u h_v3_l4 hm).elim
  | succ n ih =>
    intro v3_l4 h_v3_l4 hm
    rw [f_X8_isFree_L3]
    refine tp_if (fun c1 => ?_) (fun c1 => ?_)
    · skip
      exact tp_s (r_w (l' := 0) (h' := 1) (r_n (x := (1 : Int32)) (l := 1) (h := 1) (by decide) (by decide)) (by decide) (by decide))
    · skip
      have r2 : R32 (1) (4) k2 := r_nle1 (by decide) h_k2 h_v3_l4 c1
      have r3 : R32 (0) (3) v3_l4 := r_nle2 (by decide) h_k2 h_v3_l4 c1
      refine tp_g r3 (by decide) (by decide) ?_
      refine tp_if (fun c4 => ?_) (fun c4 => ?_)
      · skip
        have r5 : R32 (-1) (-1) (s_s.1 (v3_l4).toNatClampNeg) := r_eq1 (l := -1) (h := -1) (by decide) (by decide) (r_top _) (r_n (x := (-1 : Int32)) (l := -1) (h := -1) (by decide) (by decide)) c4
        exact t_f_X8_isFree_J40 ih hm r3
      · skip
        refine tp_g r3 (by decide) (by decide) ?_
        refine tp_b (t_f_X6_isTangle (r_w (l' := 0) (h' := 4) r2 (by decide) (by decide)) (r_w (l' := 0) (h' := 4) r3 (by decide) (by decide)) (r_w (l' := 0) (h' := 8) h_p_p_1 (by decide) (by decide)) h_p_p_2_1 h_p_p_2_2_2_2_1 (r_w (l' := 0) (h' := 5) h_p_p_2_2_2_2_2_1 (by decide) (by decide)) h_p_p_2_2_2_2_2_2_1 h_p_p_2_2_2_2_2_2_2_1) (fun o32 h6 => ?_)
        refine tp_if (fun c7 => ?_) (fun c7 => ?_)
        · skip
          have r8 : R32 (0) (0) o32 := r_eq1 (l := 0) (h := 0) (by decide) (by decide) h6 (r_n (x := (0 : Int32)) (l := 0) (h := 0) (by decide) (by decide)) c7
          exact t_f_X8_isFree_J40 ih hm r3
        · skip
          have r9 : R32 (1) (1) o32 := r_neL (by decide) h6 (r_n (x := (0 : Int32)) (l := 0) (h := 0) (by decide) (by decide)) c7
          exact tp_s (r_w (l' := 0) (h' := 1) (r_n (x := (0 : Int32)) (l := 0) (h := 0) (by decide) (by decide)) (by decide) (by decide))
theorem t_f_X8_isFree {k2 : Int32} {k3 : Int32} {s_s : TX8_s} {p_p : TX6_p} (h_k2 : R32 (0) (4) k2) (h_k3 : R32 (0) (7) k3) (h_s_s_2_2 : R32 (0) (6719) s_s.2.2) (h_p_p_1 : R32 (1) (8) p_p.1) (h_p_p_2_1 : R32 (0) (9) p_p.2.1) (h_p_p_2_2_2_2_1 : R32 (0) (4) p_p.2.2.2.2.1) (h_p_p_2_2_2_2_2_1 : R32 (1) (5) p_p.2.2.2.2.2.1) (h_p_p_2_2_2_2_2_2_1 : R32 (0) (6) p_p.2.2.2.2.2.2.1) (h_p_p_2_2_2_2_2_2_2_1 : R32 (0) (6) p_p.2.2.2.2.2.2.2.1) : TotP (f_X8_isFree k2 k3 s_s p_p) (fun (r : Int32) => R32 (0) (1) r) := by
  unfold f_X8_isFree
  exact t_f_X8_isFree_L3 h_k2 h_k3 h_s_s_2_2 h_p_p_1 h_p_p_2_1 h_p_p_2_2_2_2_1 h_p_p_2_2_2_2_2_1 h_p_p_2_2_2_2_2_2_1 h_p_p_2_2_2_2_2_2_2_1 FU _ (r_w (l' := 0) (h' := 4) (r_n (x := (0 : Int32)) (l := 0) (h := 0) (by decide) (by decide)) (by decide) (by decide)) (fu_up (r_w (l' := 0) (h' := 4) (r_n (x := (0 : Int32)) (l := 0) (h := 0) (by decide) (by decide)) (by decide) (by decide)) (by decide))
theorem t_f_X8_fill_s4_J100 {k52_ : Int32 → TX8_s → Option TX8_s} {v52_l5 : Int32} {v100_s_s : TX8_s} {N52 : Nat} (hk52 : ∀ (v52_l5 : Int32) (v52_s_s : TX8_s), R32 (0) (8) v52_l5 → R32 (0) (6720) v52_s_s.2.2 → (8 : Int) - v52_l5.toInt < (N52 : Nat) → TotP (k52_ v52_l5 v52_s_s) (fun (r : TX8_s) => R32 (0) (6720) r.2.2)) (hm52 : (8 : Int) - v52_l5.toInt < ((N52 + 1 : Nat) : Int)) (h_v52_l5 : R32 (0) (7) v52_l5) (h_v100_s_s_2_2 : R32 (0) (6720) v100_s_s.2.2) : TotP (f_X8_fill_s4_J100 k52_ v52_l5 v100_s_s) (fun (r : TX8_s) => R32 (0) (6720) r.2.2) := by
  unfold f_X8_fill_s4_J100
  exact hk52 _ _ (r_w (l' := 0) (h' := 8) (r_add (l := 1) (h := 8) h_v52_l5 (r_n (x := (1 : Int32)) (l := 1) (h := 1) (by decide) (by decide)) (by decide) (by decide) (by decide) (by decide)) (by decide) (by decide)) h_v100_s_s_2_2 (ms_up (y := (1 : Int32)) h_v52_l5 (by decide) (by decide) (by decide) hm52)
theorem t_f_X8_fill_s4_L52 {k3 : Int32} {k4 : Int32} {p_p : TX6_p} (h_k3 : R32 (0) (31) k3) (h_k4 : R32 (1) (6720) k4) (h_p_p_1 : R32 (0) (8) p_p.1) (h_p_p_2_1 : R32 (0) (9) p_p.2.1) (h_p_p_2_2_2_2_1 : R32 (0) (4) p_p.2.2.2.2.1) (h_p_p_2_2_2_2_2_1 : R32 (5) (5) p_p.2.2.2.2.2.1) (h_p_p_2_2_2_2_2_2_1 : R32 (0) (6) p_p.2.2.2.2.2.2.1) (h_p_p_2_2_2_2_2_2_2_1 : R32 (0) (6) p_p.2.2.2.2.2.2.2.1) : ∀ (n : Nat) (v52_l5 : Int32) (v52_s_s : TX8_s), R32 (0) (8) v52_l5 → R32 (0) (6720) v52_s_s.2.2 → (8 : Int) - v52_l5.toInt < (n : Int) → TotP (f_X8_fill_s4_L52 k3 k4 p_p n v52_l5 v52_s_s) (fun (r : TX8_s) => R32 (0) (6720) r.2.2) := by
  intro n
  induction n with
  | zero =>
    intro v52_l5 v52_s_s h_v52_l5 h_v52_s_s_2_2 hm
    exact (ms_0u h_v52_l5 hm).elim
  | succ n ih =>
    intro v52_l5 v52_s_s h_v52_l5 h_v52_s_s_2_2 hm
    rw [f_X8_fill_s4_L52]
    refine tp_if (fun c1 => ?_) (fun c1 => ?_)
    · skip
      exact tp_s h_v52_s_s_2_2
    · skip
      have r2 : R32 (1) (8) p_p.1 := r_nle1 (by decide) h_p_p_1 h_v52_l5 c1
      have r3 : R32 (0) (7) v52_l5 := r_nle2 (by decide) h_p_p_1 h_v52_l5 c1
      refine tp_if (fun c4 => ?_) (fun c4 => ?_)
      · skip
        have r5 : R32 (1) (6720) v52_s_s.2.2 := r_le2 h_k4 h_v52_s_s_2_2 c4
        exact tp_s (r_w (l' := 0) (h' := 6720) r5 (by decide) (by decide))
      · skip
        have r6 : R32 (0) (6719) v52_s_s.2.2 := r_nle2 (by decide) h_k4 h_v52_s_s_2_2 c4
        refine tp_b (t_f_X8_isFree (r_w (l' := 0) (h' := 4) (r_n (x := (4 : Int32)) (l := 4) (h := 4) (by decide) (by decide)) (by decide) (by decide)) r3 r6 r2 h_p_p_2_1 h_p_p_2_2_2_2_1 (r_w (l' := 1) (h' := 5) h_p_p_2_2_2_2_2_1 (by decide) (by decide)) h_p_p_2_2_2_2_2_2_1 h_p_p_2_2_2_2_2_2_2_1) (fun o75 h7 => ?_)
        refine tp_if (fun c8 => ?_) (fun c8 => ?_)
        · skip
          have r9 : R32 (0) (0) o75 := r_eq1 (l := 0) (h := 0) (by decide) (by decide) h7 (r_n (x := (0 : Int32)) (l := 0) (h := 0) (by decide) (by decide)) c8
          exact t_f_X8_fill_s4_J100 ih hm r3 (r_w (l' := 0) (h' := 6720) r6 (by decide) (by decide))
        · skip
          have r10 : R32 (1) (1) o75 := r_neL (by decide) h7 (r_n (x := (0 : Int32)) (l := 0) (h := 0) (by decide) (by decide)) c8
          refine tp_e (f_X8_fill_s5.eq_1 _ _ _ _) ?_
          refine tp_nift (d_le h_p_p_2_2_2_2_2_1 (r_n (x := (5 : Int32)) (l := 5) (h := 5) (by decide) (by decide)) (by decide)) ?_
          refine tp_e (f_X8_fill_s5_J17.eq_1 _) ?_
          refine tp_nn ?_
          refine tp_e (f_X8_keepRow.eq_1 _) ?_
          refine tp_nif (fun c11 => ?_) (fun c11 => ?_)
          · skip
            have r12 : R32 (0) (0) v52_s_s.2.2 := r_eq1 (l := 0) (h := 0) (by decide) (by decide) r6 (r_n (x := (0 : Int32)) (l := 0) (h := 0) (by decide) (by decide)) c11
            refine tp_e (f_X8_keepRow_J25.eq_1 _) ?_
            refine tp_nl ?_
            refine tp_nl ?_
            exact t_f_X8_fill_s4_J100 ih hm r3 (r_w (l' := 0) (h' := 6720) (r_add (l := 1) (h := 1) r12 (r_n (x := (1 : Int32)) (l := 1) (h := 1) (by decide) (by decide)) (by decide) (by decide) (by decide) (by decide)) (by decide) (by decide))
          · skip
            have r13 : R32 (1) (6719) v52_s_s.2.2 := r_neL (by decide) r6 (r_n (x := (0 : Int32)) (l := 0) (h := 0) (by decide) (by decide)) c11
            refine tp_e (f_X8_keepRow_J25.eq_1 _) ?_
            refine tp_nl ?_
            refine tp_nl ?_
            exact t_f_X8_fill_s4_J100 ih hm r3 (r_w (l' := 0) (h' := 6720) (r_add (l := 2) (h := 6720) r13 (r_n (x := (1 : Int32)) (l := 1) (h := 1) (by decide) (by decide)) (by decide) (by decide) (by decide) (by decide)) (by decide) (by decide))
theorem t_f_X8_fill_s4 {k3 : Int32} {k4 : Int32} {s_s : TX8_s} {p_p : TX6_p} (h_k3 : R32 (0) (31) k3) (h_k4 : R32 (1) (6720) k4) (h_s_s_2_2 : R32 (0) (6719) s_s.2.2) (h_p_p_1 : R32 (0) (8) p_p.1) (h_p_p_2_1 : R32 (0) (9) p_p.2.1) (h_p_p_2_2_2_2_1 : R32 (0) (4) p_p.2.2.2.2.1) (h_p_p_2_2_2_2_2_1 : R32 (4) (5) p_p.2.2.2.2.2.1) (h_p_p_2_2_2_2_2_2_1 : R32 (0) (6) p_p.2.2.2.2.2.2.1) (h_p_p_2_2_2_2_2_2_2_1 : R32 (0) (6) p_p.2.2.2.2.2.2.2.1) : TotP (f_X8_fill_s4 k3 k4 s_s p_p) (fun (r : TX8_s) => R32 (0) (6720) r.2.2) := by
  unfold f_X8_fill_s4
  refine tp_if (fun c1 => ?_) (fun c1 => ?_)
  · skip
    have r2 : R32 (4) (4) p_p.2.2.2.2.2.1 := r_le1 h_p_p_2_2_2_2_2_1 (r_n (x := (4 : Int32)) (l := 4) (h := 4) (by decide) (by decide)) c1
    refine tp_e (f_X8_keepRow.eq_1 _) ?_
    refine tp_nif (fun c3 => ?_) (fun c3 => ?_)
    · skip
      have r4 : R32 (0) (0) s_s.2.2 := r_eq1 (l := 0) (h := 0) (by decide) (by decide) h_s_s_2_2 (r_n (x := (0 : Int32)) (l := 0) (h := 0) (by decide) (by decide)) c3
      refine tp_e (f_X8_keepRow_J25.eq_1 _) ?_
      refine tp_nl ?_
      exact tp_s (r_w (l' := 0) (h' := 6720) (r_add (l := 1) (h := 1) r4 (r_n (x := (1 : Int32)) (l := 1) (h := 1) (by decide) (by decide)) (by decide) (by decide) (by decide) (by decide)) (by decide) (by decide))
    · skip
      have r5 : R32 (1) (6719) s_s.2.2 := r_neL (by decide) h_s_s_2_2 (r_n (x := (0 : Int32)) (l := 0) (h := 0) (by decide) (by decide)) c3
      refine tp_e (f_X8_keepRow_J25.eq_1 _) ?_
      refine tp_nl ?_
      exact tp_s (r_w (l' := 0) (h' := 6720) (r_add (l := 2) (h := 6720) r5 (r_n (x := (1 : Int32)) (l := 1) (h := 1) (by decide) (by decide)) (by decide) (by decide) (by decide) (by decide)) (by decide) (by decide))
  · skip
    have r6 : R32 (5) (5) p_p.2.2.2.2.2.1 := r_nle1 (by decide) h_p_p_2_2_2_2_2_1 (r_n (x := (4 : Int32)) (l := 4) (h := 4) (by decide) (by decide)) c1
    refine tp_if (fun c7 => ?_) (fun c7 => ?_)
    · skip
      have r8 : R32 (0) (0) ((k3 >>> ((4 : Int32) &&& (31 : Int32))) &&& (1 : Int32)) := r_eq1 (l := 0) (h := 0) (by decide) (by decide) r_and1 (r_n (x := (0 : Int32)) (l := 0) (h := 0) (by decide) (by decide)) c7
      refine tp_e (f_X8_fill_s5.eq_1 _ _ _ _) ?_
      refine tp_nift (d_le r6 (r_n (x := (5 : Int32)) (l := 5) (h := 5) (by decide) (by decide)) (by decide)) ?_
      refine tp_e (f_X8_fill_s5_J17.eq_1 _) ?_
      refine tp_nn ?_
      refine tp_e (f_X8_keepRow.eq_1 _) ?_
      refine tp_nif (fun c9 => ?_) (fun c9 => ?_)
      · skip
        have r10 : R32 (0) (0) s_s.2.2 := r_eq1 (l := 0) (h := 0) (by decide) (by decide) h_s_s_2_2 (r_n (x := (0 : Int32)) (l := 0) (h := 0) (by decide) (by decide)) c9
        refine tp_e (f_X8_keepRow_J25.eq_1 _) ?_
        refine tp_nl ?_
        refine tp_nl ?_
        exact tp_s (r_w (l' := 0) (h' := 6720) (r_add (l := 1) (h := 1) r10 (r_n (x := (1 : Int32)) (l := 1) (h := 1) (by decide) (by decide)) (by decide) (by decide) (by decide) (by decide)) (by decide) (by decide))
      · skip
        have r11 : R32 (1) (6719) s_s.2.2 := r_neL (by decide) h_s_s_2_2 (r_n (x := (0 : Int32)) (l := 0) (h := 0) (by decide) (by decide)) c9
        refine tp_e (f_X8_keepRow_J25.eq_1 _) ?_
        refine tp_nl ?_
        refine tp_nl ?_
        exact tp_s (r_w (l' := 0) (h' := 6720) (r_add (l := 2) (h := 6720) r11 (r_n (x := (1 : Int32)) (l := 1) (h := 1) (by decide) (by decide)) (by decide) (by decide) (by decide) (by decide)) (by decide) (by decide))
    · skip
      have r12 : R32 (1) (1) ((k3 >>> ((4 : Int32) &&& (31 : Int32))) &&& (1 : Int32)) := r_neL (by decide) r_and1 (r_n (x := (0 : Int32)) (l := 0) (h := 0) (by decide) (by decide)) c7
      exact t_f_X8_fill_s4_L52 h_k3 h_k4 h_p_p_1 h_p_p_2_1 h_p_p_2_2_2_2_1 r6 h_p_p_2_2_2_2_2_2_1 h_p_p_2_2_2_2_2_2_2_1 FU _ _ (r_w (l' := 0) (h' := 8) (r_n (x := (0 : Int32)) (l := 0) (h := 0) (by decide) (by decide)) (by decide) (by decide)) (r_w (l' := 0) (h' := 6720) h_s_s_2_2 (by decide) (by decide)) (fu_up (r_w (l' := 0) (h' := 8) (r_n (x := (0 : Int32)) (l := 0) (h := 0) (by decide) (by decide)) (by decide) (by decide)) (by decide))
theorem t_f_X8_fill_s3_J100 {k52_ : Int32 → TX8_s → Option TX8_s} {v52_l5 : Int32} {v100_s_s : TX8_s} {N52 : Nat} (hk52 : ∀ (v52_l5 : Int32) (v52_s_s : TX8_s), R32 (0) (8) v52_l5 → R32 (0) (6720) v52_s_s.2.2 → (8 : Int) - v52_l5.toInt < (N52 : Nat) → TotP (k52_ v52_l5 v52_s_s) (fun (r : TX8_s) => R32 (0) (6720) r.2.2)) (hm52 : (8 : Int) - v52_l5.toInt < ((N52 + 1 : Nat) : Int)) (h_v52_l5 : R32 (0) (7) v52_l5) (h_v100_s_s_2_2 : R32 (0) (6720) v100_s_s.2.2) : TotP (f_X8_fill_s3_J100 k52_ v52_l5 v100_s_s) (fun (r : TX8_s) => R32 (0) (6720) r.2.2) := by
  unfold f_X8_fill_s3_J100
  exact hk52 _ _ (r_w (l' := 0) (h' := 8) (r_add (l := 1) (h := 8) h_v52_l5 (r_n (x := (1 : Int32)) (l := 1) (h := 1) (by decide) (by decide)) (by decide) (by decide) (by decide) (by decide)) (by decide) (by decide)) h_v100_s_s_2_2 (ms_up (y := (1 : Int32)) h_v52_l5 (by decide) (by decide) (by decide) hm52)
theorem t_f_X8_fill_s3_L52 {k3 : Int32} {k4 : Int32} {p_p : TX6_p} (h_k3 : R32 (0) (31) k3) (h_k4 : R32 (1) (6720) k4) (h_p_p_1 : R32 (0) (8) p_p.1) (h_p_p_2_1 : R32 (0) (9) p_p.2.1) (h_p_p_2_2_2_2_1 : R32 (0) (4) p_p.2.2.2.2.1) (h_p_p_2_2_2_2_2_1 : R32 (4) (5) p_p.2.2.2.2.2.1) (h_p_p_2_2_2_2_2_2_1 : R32 (0) (6) p_p.2.2.2.2.2.2.1) (h_p_p_2_2_2_2_2_2_2_1 : R32 (0) (6) p_p.2.2.2.2.2.2.2.1) : ∀ (n : Nat) (v52_l5 : Int32) (v52_s_s : TX8_s), R32 (0) (8) v52_l5 → R32 (0) (6720) v52_s_s.2.2 → (8 : Int) - v52_l5.toInt < (n : Int) → TotP (f_X8_fill_s3_L52 k3 k4 p_p n v52_l5 v52_s_s) (fun (r : TX8_s) => R32 (0) (6720) r.2.2) := by
  intro n
  induction n with
  | zero =>
    intro v52_l5 v52_s_s h_v52_l5 h_v52_s_s_2_2 hm
    exact (ms_0u h_v52_l5 hm).elim
  | succ n ih =>
    intro v52_l5 v52_s_s h_v52_l5 h_v52_s_s_2_2 hm
    rw [f_X8_fill_s3_L52]
    refine tp_if (fun c1 => ?_) (fun c1 => ?_)
    · skip
      exact tp_s h_v52_s_s_2_2
    · skip
      have r2 : R32 (1) (8) p_p.1 := r_nle1 (by decide) h_p_p_1 h_v52_l5 c1
      have r3 : R32 (0) (7) v52_l5 := r_nle2 (by decide) h_p_p_1 h_v52_l5 c1
      refine tp_if (fun c4 => ?_) (fun c4 => ?_)
      · skip
        have r5 : R32 (1) (6720) v52_s_s.2.2 := r_le2 h_k4 h_v52_s_s_2_2 c4
        exact tp_s (r_w (l' := 0) (h' := 6720) r5 (by decide) (by decide))
      · skip
        have r6 : R32 (0) (6719) v52_s_s.2.2 := r_nle2 (by decide) h_k4 h_v52_s_s_2_2 c4
        refine tp_b (t_f_X8_isFree (r_w (l' := 0) (h' := 4) (r_n (x := (3 : Int32)) (l := 3) (h := 3) (by decide) (by decide)) (by decide) (by decide)) r3 r6 r2 h_p_p_2_1 h_p_p_2_2_2_2_1 (r_w (l' := 1) (h' := 5) h_p_p_2_2_2_2_2_1 (by decide) (by decide)) h_p_p_2_2_2_2_2_2_1 h_p_p_2_2_2_2_2_2_2_1) (fun o75 h7 => ?_)
        refine tp_if (fun c8 => ?_) (fun c8 => ?_)
        · skip
          have r9 : R32 (0) (0) o75 := r_eq1 (l := 0) (h := 0) (by decide) (by decide) h7 (r_n (x := (0 : Int32)) (l := 0) (h := 0) (by decide) (by decide)) c8
          exact t_f_X8_fill_s3_J100 ih hm r3 (r_w (l' := 0) (h' := 6720) r6 (by decide) (by decide))
        · skip
          have r10 : R32 (1) (1) o75 := r_neL (by decide) h7 (r_n (x := (0 : Int32)) (l := 0) (h := 0) (by decide) (by decide)) c8
          refine tp_b (t_f_X8_fill_s4 h_k3 h_k4 r6 (r_w (l' := 0) (h' := 8) r2 (by decide) (by decide)) h_p_p_2_1 h_p_p_2_2_2_2_1 h_p_p_2_2_2_2_2_1 h_p_p_2_2_2_2_2_2_1 h_p_p_2_2_2_2_2_2_2_1) (fun o97 h11 => ?_)
          exact t_f_X8_fill_s3_J100 ih hm r3 h11
theorem t_f_X8_fill_s3 {k3 : Int32} {k4 : Int32} {s_s : TX8_s} {p_p : TX6_p} (h_k3 : R32 (0) (31) k3) (h_k4 : R32 (1) (6720) k4) (h_s_s_2_2 : R32 (0) (6719) s_s.2.2) (h_p_p_1 : R32 (0) (8) p_p.1) (h_p_p_2_1 : R32 (0) (9) p_p.2.1) (h_p_p_2_2_2_2_1 : R32 (0) (4) p_p.2.2.2.2.1) (h_p_p_2_2_2_2_2_1 : R32 (3) (5) p_p.2.2.2.2.2.1) (h_p_p_2_2_2_2_2_2_1 : R32 (0) (6) p_p.2.2.2.2.2.2.1) (h_p_p_2_2_2_2_2_2_2_1 : R32 (0) (6) p_p.2.2.2.2.2.2.2.1) : TotP (f_X8_fill_s3 k3 k4 s_s p_p) (fun (r : TX8_s) => R32 (0) (6720) r.2.2) := by
  unfold f_X8_fill_s3
  refine tp_if (fun c1 => ?_) (fun c1 => ?_)
  · skip
    have r2 : R32 (3) (3) p_p.2.2.2.2.2.1 := r_le1 h_p_p_2_2_2_2_2_1 (r_n (x := (3 : Int32)) (l := 3) (h := 3) (by decide) (by decide)) c1
    refine tp_e (f_X8_keepRow.eq_1 _) ?_
    refine tp_nif (fun c3 => ?_) (fun c3 => ?_)
    · skip
      have r4 : R32 (0) (0) s_s.2.2 := r_eq1 (l := 0) (h := 0) (by decide) (by decide) h_s_s_2_2 (r_n (x := (0 : Int32)) (l := 0) (h := 0) (by decide) (by decide)) c3
      refine tp_e (f_X8_keepRow_J25.eq_1 _) ?_
      refine tp_nl ?_
      exact tp_s (r_w (l' := 0) (h' := 6720) (r_add (l := 1) (h := 1) r4 (r_n (x := (1 : Int32)) (l := 1) (h := 1) (by decide) (by decide)) (by decide) (by decide) (by decide) (by decide)) (by decide) (by decide))
    · skip
      have r5 : R32 (1) (6719) s_s.2.2 := r_neL (by decide) h_s_s_2_2 (r_n (x := (0 : Int32)) (l := 0) (h := 0) (by decide) (by decide)) c3
      refine tp_e (f_X8_keepRow_J25.eq_1 _) ?_
      refine tp_nl ?_
      exact tp_s (r_w (l' := 0) (h' := 6720) (r_add (l := 2) (h := 6720) r5 (r_n (x := (1 : Int32)) (l := 1) (h := 1) (by decide) (by decide)) (by decide) (by decide) (by decide) (by decide)) (by decide) (by decide))
  · skip
    have r6 : R32 (4) (5) p_p.2.2.2.2.2.1 := r_nle1 (by decide) h_p_p_2_2_2_2_2_1 (r_n (x := (3 : Int32)) (l := 3) (h := 3) (by decide) (by decide)) c1
    refine tp_if (fun c7 => ?_) (fun c7 => ?_)
    · skip
      have r8 : R32 (0) (0) ((k3 >>> ((3 : Int32) &&& (31 : Int32))) &&& (1 : Int32)) := r_eq1 (l := 0) (h := 0) (by decide) (by decide) r_and1 (r_n (x := (0 : Int32)) (l := 0) (h := 0) (by decide) (by decide)) c7
      refine tp_b (t_f_X8_fill_s4 h_k3 h_k4 h_s_s_2_2 h_p_p_1 h_p_p_2_1 h_p_p_2_2_2_2_1 r6 h_p_p_2_2_2_2_2_2_1 h_p_p_2_2_2_2_2_2_2_1) (fun o45 h9 => ?_)
      exact tp_s h9
    · skip
      have r10 : R32 (1) (1) ((k3 >>> ((3 : Int32) &&& (31 : Int32))) &&& (1 : Int32)) := r_neL (by decide) r_and1 (r_n (x := (0 : Int32)) (l := 0) (h := 0) (by decide) (by decide)) c7
      exact t_f_X8_fill_s3_L52 h_k3 h_k4 h_p_p_1 h_p_p_2_1 h_p_p_2_2_2_2_1 r6 h_p_p_2_2_2_2_2_2_1 h_p_p_2_2_2_2_2_2_2_1 FU _ _ (r_w (l' := 0) (h' := 8) (r_n (x := (0 : Int32)) (l := 0) (h := 0) (by decide) (by decide)) (by decide) (by decide)) (r_w (l' := 0) (h' := 6720) h_s_s_2_2 (by decide) (by decide)) (fu_up (r_w (l' := 0) (h' := 8) (r_n (x := (0 : Int32)) (l := 0) (h := 0) (by decide) (by decide)) (by decide) (by decide)) (by decide))
theorem t_f_X8_fill_s2_J100 {k52_ : Int32 → TX8_s → Option TX8_s} {v52_l5 : Int32} {v100_s_s : TX8_s} {N52 : Nat} (hk52 : ∀ (v52_l5 : Int32) (v52_s_s : TX8_s), R32 (0) (8) v52_l5 → R32 (0) (6720) v52_s_s.2.2 → (8 : Int) - v52_l5.toInt < (N52 : Nat) → TotP (k52_ v52_l5 v52_s_s) (fun (r : TX8_s) => R32 (0) (6720) r.2.2)) (hm52 : (8 : Int) - v52_l5.toInt < ((N52 + 1 : Nat) : Int)) (h_v52_l5 : R32 (0) (7) v52_l5) (h_v100_s_s_2_2 : R32 (0) (6720) v100_s_s.2.2) : TotP (f_X8_fill_s2_J100 k52_ v52_l5 v100_s_s) (fun (r : TX8_s) => R32 (0) (6720) r.2.2) := by
  unfold f_X8_fill_s2_J100
  exact hk52 _ _ (r_w (l' := 0) (h' := 8) (r_add (l := 1) (h := 8) h_v52_l5 (r_n (x := (1 : Int32)) (l := 1) (h := 1) (by decide) (by decide)) (by decide) (by decide) (by decide) (by decide)) (by decide) (by decide)) h_v100_s_s_2_2 (ms_up (y := (1 : Int32)) h_v52_l5 (by decide) (by decide) (by decide) hm52)
theorem t_f_X8_fill_s2_L52 {k3 : Int32} {k4 : Int32} {p_p : TX6_p} (h_k3 : R32 (0) (31) k3) (h_k4 : R32 (1) (6720) k4) (h_p_p_1 : R32 (0) (8) p_p.1) (h_p_p_2_1 : R32 (0) (9) p_p.2.1) (h_p_p_2_2_2_2_1 : R32 (0) (4) p_p.2.2.2.2.1) (h_p_p_2_2_2_2_2_1 : R32 (3) (5) p_p.2.2.2.2.2.1) (h_p_p_2_2_2_2_2_2_1 : R32 (0) (6) p_p.2.2.2.2.2.2.1) (h_p_p_2_2_2_2_2_2_2_1 : R32 (0) (6) p_p.2.2.2.2.2.2.2.1) : ∀ (n : Nat) (v52_l5 : Int32) (v52_s_s : TX8_s), R32 (0) (8) v52_l5 → R32 (0) (6720) v52_s_s.2.2 → (8 : Int) - v52_l5.toInt < (n : Int) → TotP (f_X8_fill_s2_L52 k3 k4 p_p n v52_l5 v52_s_s) (fun (r : TX8_s) => R32 (0) (6720) r.2.2) := by
  intro n
  induction n with
  | zero =>
    intro v52_l5 v52_s_s h_v52_l5 h_v52_s_s_2_2 hm
    exact (ms_0u h_v52_l5 hm).elim
  | succ n ih =>
    intro v52_l5 v52_s_s h_v52_l5 h_v52_s_s_2_2 hm
    rw [f_X8_fill_s2_L52]
    refine tp_if (fun c1 => ?_) (fun c1 => ?_)
    · skip
      exact tp_s h_v52_s_s_2_2
    · skip
      have r2 : R32 (1) (8) p_p.1 := r_nle1 (by decide) h_p_p_1 h_v52_l5 c1
      have r3 : R32 (0) (7) v52_l5 := r_nle2 (by decide) h_p_p_1 h_v52_l5 c1
      refine tp_if (fun c4 => ?_) (fun c4 => ?_)
      · skip
        have r5 : R32 (1) (6720) v52_s_s.2.2 := r_le2 h_k4 h_v52_s_s_2_2 c4
        exact tp_s (r_w (l' := 0) (h' := 6720) r5 (by decide) (by decide))
      · skip
        have r6 : R32 (0) (6719) v52_s_s.2.2 := r_nle2 (by decide) h_k4 h_v52_s_s_2_2 c4
        refine tp_b (t_f_X8_isFree (r_w (l' := 0) (h' := 4) (r_n (x := (2 : Int32)) (l := 2) (h := 2) (by decide) (by decide)) (by decide) (by decide)) r3 r6 r2 h_p_p_2_1 h_p_p_2_2_2_2_1 (r_w (l' := 1) (h' := 5) h_p_p_2_2_2_2_2_1 (by decide) (by decide)) h_p_p_2_2_2_2_2_2_1 h_p_p_2_2_2_2_2_2_2_1) (fun o75 h7 => ?_)
        refine tp_if (fun c8 => ?_) (fun c8 => ?_)
        · skip
          have r9 : R32 (0) (0) o75 := r_eq1 (l := 0) (h := 0) (by decide) (by decide) h7 (r_n (x := (0 : Int32)) (l := 0) (h := 0) (by decide) (by decide)) c8
          exact t_f_X8_fill_s2_J100 ih hm r3 (r_w (l' := 0) (h' := 6720) r6 (by decide) (by decide))
        · skip
          have r10 : R32 (1) (1) o75 := r_neL (by decide) h7 (r_n (x := (0 : Int32)) (l := 0) (h := 0) (by decide) (by decide)) c8
          refine tp_b (t_f_X8_fill_s3 h_k3 h_k4 r6 (r_w (l' := 0) (h' := 8) r2 (by decide) (by decide)) h_p_p_2_1 h_p_p_2_2_2_2_1 h_p_p_2_2_2_2_2_1 h_p_p_2_2_2_2_2_2_1 h_p_p_2_2_2_2_2_2_2_1) (fun o97 h11 => ?_)
          exact t_f_X8_fill_s2_J100 ih hm r3 h11
theorem t_f_X8_fill_s2 {k3 : Int32} {k4 : Int32} {s_s : TX8_s} {p_p : TX6_p} (h_k3 : R32 (0) (31) k3) (h_k4 : R32 (1) (6720) k4) (h_s_s_2_2 : R32 (0) (6719) s_s.2.2) (h_p_p_1 : R32 (0) (8) p_p.1) (h_p_p_2_1 : R32 (0) (9) p_p.2.1) (h_p_p_2_2_2_2_1 : R32 (0) (4) p_p.2.2.2.2.1) (h_p_p_2_2_2_2_2_1 : R32 (2) (5) p_p.2.2.2.2.2.1) (h_p_p_2_2_2_2_2_2_1 : R32 (0) (6) p_p.2.2.2.2.2.2.1) (h_p_p_2_2_2_2_2_2_2_1 : R32 (0) (6) p_p.2.2.2.2.2.2.2.1) : TotP (f_X8_fill_s2 k3 k4 s_s p_p) (fun (r : TX8_s) => R32 (0) (6720) r.2.2) := by
  unfold f_X8_fill_s2
  refine tp_if (fun c1 => ?_) (fun c1 => ?_)
  · skip
    have r2 : R32 (2) (2) p_p.2.2.2.2.2.1 := r_le1 h_p_p_2_2_2_2_2_1 (r_n (x := (2 : Int32)) (l := 2) (h := 2) (by decide) (by decide)) c1
    refine tp_e (f_X8_keepRow.eq_1 _) ?_
    refine tp_nif (fun c3 => ?_) (fun c3 => ?_)
    · skip
      have r4 : R32 (0) (0) s_s.2.2 := r_eq1 (l := 0) (h := 0) (by decide) (by decide) h_s_s_2_2 (r_n (x := (0 : Int32)) (l := 0) (h := 0) (by decide) (by decide)) c3
      refine tp_e (f_X8_keepRow_J25.eq_1 _) ?_
      refine tp_nl ?_
      exact tp_s (r_w (l' := 0) (h' := 6720) (r_add (l := 1) (h := 1) r4 (r_n (x := (1 : Int32)) (l := 1) (h := 1) (by decide) (by decide)) (by decide) (by decide) (by decide) (by decide)) (by decide) (by decide))
    · skip
      have r5 : R32 (1) (6719) s_s.2.2 := r_neL (by decide) h_s_s_2_2 (r_n (x := (0 : Int32)) (l := 0) (h := 0) (by decide) (by decide)) c3
      refine tp_e (f_X8_keepRow_J25.eq_1 _) ?_
      refine tp_nl ?_
      exact tp_s (r_w (l' := 0) (h' := 6720) (r_add (l := 2) (h := 6720) r5 (r_n (x := (1 : Int32)) (l := 1) (h := 1) (by decide) (by decide)) (by decide) (by decide) (by decide) (by decide)) (by decide) (by decide))
  · skip
    have r6 : R32 (3) (5) p_p.2.2.2.2.2.1 := r_nle1 (by decide) h_p_p_2_2_2_2_2_1 (r_n (x := (2 : Int32)) (l := 2) (h := 2) (by decide) (by decide)) c1
    refine tp_if (fun c7 => ?_) (fun c7 => ?_)
    · skip
      have r8 : R32 (0) (0) ((k3 >>> ((2 : Int32) &&& (31 : Int32))) &&& (1 : Int32)) := r_eq1 (l := 0) (h := 0) (by decide) (by decide) r_and1 (r_n (x := (0 : Int32)) (l := 0) (h := 0) (by decide) (by decide)) c7
      refine tp_b (t_f_X8_fill_s3 h_k3 h_k4 h_s_s_2_2 h_p_p_1 h_p_p_2_1 h_p_p_2_2_2_2_1 r6 h_p_p_2_2_2_2_2_2_1 h_p_p_2_2_2_2_2_2_2_1) (fun o45 h9 => ?_)
      exact tp_s h9
    · skip
      have r10 : R32 (1) (1) ((k3 >>> ((2 : Int32) &&& (31 : Int32))) &&& (1 : Int32)) := r_neL (by decide) r_and1 (r_n (x := (0 : Int32)) (l := 0) (h := 0) (by decide) (by decide)) c7
      exact t_f_X8_fill_s2_L52 h_k3 h_k4 h_p_p_1 h_p_p_2_1 h_p_p_2_2_2_2_1 r6 h_p_p_2_2_2_2_2_2_1 h_p_p_2_2_2_2_2_2_2_1 FU _ _ (r_w (l' := 0) (h' := 8) (r_n (x := (0 : Int32)) (l := 0) (h := 0) (by decide) (by decide)) (by decide) (by decide)) (r_w (l' := 0) (h' := 6720) h_s_s_2_2 (by decide) (by decide)) (fu_up (r_w (l' := 0) (h' := 8) (r_n (x := (0 : Int32)) (l := 0) (h := 0) (by decide) (by decide)) (by decide) (by decide)) (by decide))
theorem t_f_X8_fill_s1_J100 {k52_ : Int32 → TX8_s → Option TX8_s} {v52_l5 : Int32} {v100_s_s : TX8_s} {N52 : Nat} (hk52 : ∀ (v52_l5 : Int32) (v52_s_s : TX8_s), R32 (0) (8) v52_l5 → R32 (0) (6720) v52_s_s.2.2 → (8 : Int) - v52_l5.toInt < (N52 : Nat) → TotP (k52_ v52_l5 v52_s_s) (fun (r : TX8_s) => R32 (0) (6720) r.2.2)) (hm52 : (8 : Int) - v52_l5.toInt < ((N52 + 1 : Nat) : Int)) (h_v52_l5 : R32 (0) (7) v52_l5) (h_v100_s_s_2_2 : R32 (0) (6720) v100_s_s.2.2) : TotP (f_X8_fill_s1_J100 k52_ v52_l5 v100_s_s) (fun (r : TX8_s) => R32 (0) (6720) r.2.2) := by
  unfold f_X8_fill_s1_J100
  exact hk52 _ _ (r_w (l' := 0) (h' := 8) (r_add (l := 1) (h := 8) h_v52_l5 (r_n (x := (1 : Int32)) (l := 1) (h := 1) (by decide) (by decide)) (by decide) (by decide) (by decide) (by decide)) (by decide) (by decide)) h_v100_s_s_2_2 (ms_up (y := (1 : Int32)) h_v52_l5 (by decide) (by decide) (by decide) hm52)
theorem t_f_X8_fill_s1_L52 {k3 : Int32} {k4 : Int32} {p_p : TX6_p} (h_k3 : R32 (0) (31) k3) (h_k4 : R32 (1) (6720) k4) (h_p_p_1 : R32 (0) (8) p_p.1) (h_p_p_2_1 : R32 (0) (9) p_p.2.1) (h_p_p_2_2_2_2_1 : R32 (0) (4) p_p.2.2.2.2.1) (h_p_p_2_2_2_2_2_1 : R32 (2) (5) p_p.2.2.2.2.2.1) (h_p_p_2_2_2_2_2_2_1 : R32 (0) (6) p_p.2.2.2.2.2.2.1) (h_p_p_2_2_2_2_2_2_2_1 : R32 (0) (6) p_p.2.2.2.2.2.2.2.1) : ∀ (n : Nat) (v52_l5 : Int32) (v52_s_s : TX8_s), R32 (0) (8) v52_l5 → R32 (0) (6720) v52_s_s.2.2 → (8 : Int) - v52_l5.toInt < (n : Int) → TotP (f_X8_fill_s1_L52 k3 k4 p_p n v52_l5 v52_s_s) (fun (r : TX8_s) => R32 (0) (6720) r.2.2) := by
  intro n
  induction n with
  | zero =>
    intro v52_l5 v52_s_s h_v52_l5 h_v52_s_s_2_2 hm
    exact (ms_0u h_v52_l5 hm).elim
  | succ n ih =>
    intro v52_l5 v52_s_s h_v52_l5 h_v52_s_s_2_2 hm
    rw [f_X8_fill_s1_L52]
    refine tp_if (fun c1 => ?_) (fun c1 => ?_)
    · skip
      exact tp_s h_v52_s_s_2_2
    · skip
      have r2 : R32 (1) (8) p_p.1 := r_nle1 (by decide) h_p_p_1 h_v52_l5 c1
      have r3 : R32 (0) (7) v52_l5 := r_nle2 (by decide) h_p_p_1 h_v52_l5 c1
      refine tp_if (fun c4 => ?_) (fun c4 => ?_)
      · skip
        have r5 : R32 (1) (6720) v52_s_s.2.2 := r_le2 h_k4 h_v52_s_s_2_2 c4
        exact tp_s (r_w (l' := 0) (h' := 6720) r5 (by decide) (by decide))
      · skip
        have r6 : R32 (0) (6719) v52_s_s.2.2 := r_nle2 (by decide) h_k4 h_v52_s_s_2_2 c4
        refine tp_b (t_f_X8_isFree (r_w (l' := 0) (h' := 4) (r_n (x := (1 : Int32)) (l := 1) (h := 1) (by decide) (by decide)) (by decide) (by decide)) r3 r6 r2 h_p_p_2_1 h_p_p_2_2_2_2_1 (r_w (l' := 1) (h' := 5) h_p_p_2_2_2_2_2_1 (by decide) (by decide)) h_p_p_2_2_2_2_2_2_1 h_p_p_2_2_2_2_2_2_2_1) (fun o75 h7 => ?_)
        refine tp_if (fun c8 => ?_) (fun c8 => ?_)
        · skip
          have r9 : R32 (0) (0) o75 := r_eq1 (l := 0) (h := 0) (by decide) (by decide) h7 (r_n (x := (0 : Int32)) (l := 0) (h := 0) (by decide) (by decide)) c8
          exact t_f_X8_fill_s1_J100 ih hm r3 (r_w (l' := 0) (h' := 6720) r6 (by decide) (by decide))
        · skip
          have r10 : R32 (1) (1) o75 := r_neL (by decide) h7 (r_n (x := (0 : Int32)) (l := 0) (h := 0) (by decide) (by decide)) c8
          refine tp_b (t_f_X8_fill_s2 h_k3 h_k4 r6 (r_w (l' := 0) (h' := 8) r2 (by decide) (by decide)) h_p_p_2_1 h_p_p_2_2_2_2_1 h_p_p_2_2_2_2_2_1 h_p_p_2_2_2_2_2_2_1 h_p_p_2_2_2_2_2_2_2_1) (fun o97 h11 => ?_)
          exact t_f_X8_fill_s1_J100 ih hm r3 h11
theorem t_f_X8_fill_s1 {k3 : Int32} {k4 : Int32} {s_s : TX8_s} {p_p : TX6_p} (h_k3 : R32 (0) (31) k3) (h_k4 : R32 (1) (6720) k4) (h_s_s_2_2 : R32 (0) (6719) s_s.2.2) (h_p_p_1 : R32 (0) (8) p_p.1) (h_p_p_2_1 : R32 (0) (9) p_p.2.1) (h_p_p_2_2_2_2_1 : R32 (0) (4) p_p.2.2.2.2.1) (h_p_p_2_2_2_2_2_1 : R32 (1) (5) p_p.2.2.2.2.2.1) (h_p_p_2_2_2_2_2_2_1 : R32 (0) (6) p_p.2.2.2.2.2.2.1) (h_p_p_2_2_2_2_2_2_2_1 : R32 (0) (6) p_p.2.2.2.2.2.2.2.1) : TotP (f_X8_fill_s1 k3 k4 s_s p_p) (fun (r : TX8_s) => R32 (0) (6720) r.2.2) := by
  unfold f_X8_fill_s1
  refine tp_if (fun c1 => ?_) (fun c1 => ?_)
  · skip
    have r2 : R32 (1) (1) p_p.2.2.2.2.2.1 := r_le1 h_p_p_2_2_2_2_2_1 (r_n (x := (1 : Int32)) (l := 1) (h := 1) (by decide) (by decide)) c1
    refine tp_e (f_X8_keepRow.eq_1 _) ?_
    refine tp_nif (fun c3 => ?_) (fun c3 => ?_)
    · skip
      have r4 : R32 (0) (0) s_s.2.2 := r_eq1 (l := 0) (h := 0) (by decide) (by decide) h_s_s_2_2 (r_n (x := (0 : Int32)) (l := 0) (h := 0) (by decide) (by decide)) c3
      refine tp_e (f_X8_keepRow_J25.eq_1 _) ?_
      refine tp_nl ?_
      exact tp_s (r_w (l' := 0) (h' := 6720) (r_add (l := 1) (h := 1) r4 (r_n (x := (1 : Int32)) (l := 1) (h := 1) (by decide) (by decide)) (by decide) (by decide) (by decide) (by decide)) (by decide) (by decide))
    · skip
      have r5 : R32 (1) (6719) s_s.2.2 := r_neL (by decide) h_s_s_2_2 (r_n (x := (0 : Int32)) (l := 0) (h := 0) (by decide) (by decide)) c3
      refine tp_e (f_X8_keepRow_J25.eq_1 _) ?_
      refine tp_nl ?_
      exact tp_s (r_w (l' := 0) (h' := 6720) (r_add (l := 2) (h := 6720) r5 (r_n (x := (1 : Int32)) (l := 1) (h := 1) (by decide) (by decide)) (by decide) (by decide) (by decide) (by decide)) (by decide) (by decide))
  · skip
    have r6 : R32 (2) (5) p_p.2.2.2.2.2.1 := r_nle1 (by decide) h_p_p_2_2_2_2_2_1 (r_n (x := (1 : Int32)) (l := 1) (h := 1) (by decide) (by decide)) c1
    refine tp_if (fun c7 => ?_) (fun c7 => ?_)
    · skip
      have r8 : R32 (0) (0) ((k3 >>> ((1 : Int32) &&& (31 : Int32))) &&& (1 : Int32)) := r_eq1 (l := 0) (h := 0) (by decide) (by decide) r_and1 (r_n (x := (0 : Int32)) (l := 0) (h := 0) (by decide) (by decide)) c7
      refine tp_b (t_f_X8_fill_s2 h_k3 h_k4 h_s_s_2_2 h_p_p_1 h_p_p_2_1 h_p_p_2_2_2_2_1 r6 h_p_p_2_2_2_2_2_2_1 h_p_p_2_2_2_2_2_2_2_1) (fun o45 h9 => ?_)
      exact tp_s h9
    · skip
      have r10 : R32 (1) (1) ((k3 >>> ((1 : Int32) &&& (31 : Int32))) &&& (1 : Int32)) := r_neL (by decide) r_and1 (r_n (x := (0 : Int32)) (l := 0) (h := 0) (by decide) (by decide)) c7
      exact t_f_X8_fill_s1_L52 h_k3 h_k4 h_p_p_1 h_p_p_2_1 h_p_p_2_2_2_2_1 r6 h_p_p_2_2_2_2_2_2_1 h_p_p_2_2_2_2_2_2_2_1 FU _ _ (r_w (l' := 0) (h' := 8) (r_n (x := (0 : Int32)) (l := 0) (h := 0) (by decide) (by decide)) (by decide) (by decide)) (r_w (l' := 0) (h' := 6720) h_s_s_2_2 (by decide) (by decide)) (fu_up (r_w (l' := 0) (h' := 8) (r_n (x := (0 : Int32)) (l := 0) (h := 0) (by decide) (by decide)) (by decide) (by decide)) (by decide))
theorem t_f_X8_fill_s0_J100 {k52_ : Int32 → TX8_s → Option TX8_s} {v52_l5 : Int32} {v100_s_s : TX8_s} {N52 : Nat} (hk52 : ∀ (v52_l5 : Int32) (v52_s_s : TX8_s), R32 (0) (8) v52_l5 → R32 (0) (6720) v52_s_s.2.2 → (8 : Int) - v52_l5.toInt < (N52 : Nat) → TotP (k52_ v52_l5 v52_s_s) (fun (r : TX8_s) => R32 (0) (6720) r.2.2)) (hm52 : (8 : Int) - v52_l5.toInt < ((N52 + 1 : Nat) : Int)) (h_v52_l5 : R32 (0) (7) v52_l5) (h_v100_s_s_2_2 : R32 (0) (6720) v100_s_s.2.2) : TotP (f_X8_fill_s0_J100 k52_ v52_l5 v100_s_s) (fun (r : TX8_s) => R32 (0) (6720) r.2.2) := by
  unfold f_X8_fill_s0_J100
  exact hk52 _ _ (r_w (l' := 0) (h' := 8) (r_add (l := 1) (h := 8) h_v52_l5 (r_n (x := (1 : Int32)) (l := 1) (h := 1) (by decide) (by decide)) (by decide) (by decide) (by decide) (by decide)) (by decide) (by decide)) h_v100_s_s_2_2 (ms_up (y := (1 : Int32)) h_v52_l5 (by decide) (by decide) (by decide) hm52)
theorem t_f_X8_fill_s0_L52 {k3 : Int32} {k4 : Int32} {p_p : TX6_p} (h_k3 : R32 (0) (31) k3) (h_k4 : R32 (1) (6720) k4) (h_p_p_1 : R32 (0) (8) p_p.1) (h_p_p_2_1 : R32 (0) (9) p_p.2.1) (h_p_p_2_2_2_2_1 : R32 (0) (4) p_p.2.2.2.2.1) (h_p_p_2_2_2_2_2_1 : R32 (1) (5) p_p.2.2.2.2.2.1) (h_p_p_2_2_2_2_2_2_1 : R32 (0) (6) p_p.2.2.2.2.2.2.1) (h_p_p_2_2_2_2_2_2_2_1 : R32 (0) (6) p_p.2.2.2.2.2.2.2.1) : ∀ (n : Nat) (v52_l5 : Int32) (v52_s_s : TX8_s), R32 (0) (8) v52_l5 → R32 (0) (6720) v52_s_s.2.2 → (8 : Int) - v52_l5.toInt < (n : Int) → TotP (f_X8_fill_s0_L52 k3 k4 p_p n v52_l5 v52_s_s) (fun (r : TX8_s) => R32 (0) (6720) r.2.2) := by
  intro n
  induction n with
  | zero =>
    intro v52_l5 v52_s_s h_v52_l5 h_v52_s_s_2_2 hm
    exact (ms_0u h_v52_l5 hm).elim
  | succ n ih =>
    intro v52_l5 v52_s_s h_v52_l5 h_v52_s_s_2_2 hm
    rw [f_X8_fill_s0_L52]
    refine tp_if (fun c1 => ?_) (fun c1 => ?_)
    · skip
      exact tp_s h_v52_s_s_2_2
    · skip
      have r2 : R32 (1) (8) p_p.1 := r_nle1 (by decide) h_p_p_1 h_v52_l5 c1
      have r3 : R32 (0) (7) v52_l5 := r_nle2 (by decide) h_p_p_1 h_v52_l5 c1
      refine tp_if (fun c4 => ?_) (fun c4 => ?_)
      · skip
        have r5 : R32 (1) (6720) v52_s_s.2.2 := r_le2 h_k4 h_v52_s_s_2_2 c4
        exact tp_s (r_w (l' := 0) (h' := 6720) r5 (by decide) (by decide))
      · skip
        have r6 : R32 (0) (6719) v52_s_s.2.2 := r_nle2 (by decide) h_k4 h_v52_s_s_2_2 c4
        refine tp_b (t_f_X8_isFree (r_w (l' := 0) (h' := 4) (r_n (x := (0 : Int32)) (l := 0) (h := 0) (by decide) (by decide)) (by decide) (by decide)) r3 r6 r2 h_p_p_2_1 h_p_p_2_2_2_2_1 h_p_p_2_2_2_2_2_1 h_p_p_2_2_2_2_2_2_1 h_p_p_2_2_2_2_2_2_2_1) (fun o75 h7 => ?_)
        refine tp_if (fun c8 => ?_) (fun c8 => ?_)
        · skip
          have r9 : R32 (0) (0) o75 := r_eq1 (l := 0) (h := 0) (by decide) (by decide) h7 (r_n (x := (0 : Int32)) (l := 0) (h := 0) (by decide) (by decide)) c8
          exact t_f_X8_fill_s0_J100 ih hm r3 (r_w (l' := 0) (h' := 6720) r6 (by decide) (by decide))
        · skip
          have r10 : R32 (1) (1) o75 := r_neL (by decide) h7 (r_n (x := (0 : Int32)) (l := 0) (h := 0) (by decide) (by decide)) c8
          refine tp_b (t_f_X8_fill_s1 h_k3 h_k4 r6 (r_w (l' := 0) (h' := 8) r2 (by decide) (by decide)) h_p_p_2_1 h_p_p_2_2_2_2_1 h_p_p_2_2_2_2_2_1 h_p_p_2_2_2_2_2_2_1 h_p_p_2_2_2_2_2_2_2_1) (fun o97 h11 => ?_)
          exact t_f_X8_fill_s0_J100 ih hm r3 h11
theorem t_f_X8_fill_s0 {k3 : Int32} {k4 : Int32} {s_s : TX8_s} {p_p : TX6_p} (h_k3 : R32 (0) (31) k3) (h_k4 : R32 (1) (6720) k4) (h_s_s_2_2 : R32 (0) (0) s_s.2.2) (h_p_p_1 : R32 (0) (8) p_p.1) (h_p_p_2_1 : R32 (0) (9) p_p.2.1) (h_p_p_2_2_2_2_1 : R32 (0) (4) p_p.2.2.2.2.1) (h_p_p_2_2_2_2_2_1 : R32 (0) (5) p_p.2.2.2.2.2.1) (h_p_p_2_2_2_2_2_2_1 : R32 (0) (6) p_p.2.2.2.2.2.2.1) (h_p_p_2_2_2_2_2_2_2_1 : R32 (0) (6) p_p.2.2.2.2.2.2.2.1) : TotP (f_X8_fill_s0 k3 k4 s_s p_p) (fun (r : TX8_s) => R32 (0) (6720) r.2.2) := by
  unfold f_X8_fill_s0
  refine tp_if (fun c1 => ?_) (fun c1 => ?_)
  · skip
    have r2 : R32 (0) (0) p_p.2.2.2.2.2.1 := r_le1 h_p_p_2_2_2_2_2_1 (r_n (x := (0 : Int32)) (l := 0) (h := 0) (by decide) (by decide)) c1
    refine tp_e (f_X8_keepRow.eq_1 _) ?_
    refine tp_nift (d_eq h_s_s_2_2 (r_n (x := (0 : Int32)) (l := 0) (h := 0) (by decide) (by decide))) ?_
    refine tp_e (f_X8_keepRow_J25.eq_1 _) ?_
    refine tp_nl ?_
    exact tp_s (r_w (l' := 0) (h' := 6720) (r_add (l := 1) (h := 1) h_s_s_2_2 (r_n (x := (1 : Int32)) (l := 1) (h := 1) (by decide) (by decide)) (by decide) (by decide) (by decide) (by decide)) (by decide) (by decide))
  · skip
    have r3 : R32 (1) (5) p_p.2.2.2.2.2.1 := r_nle1 (by decide) h_p_p_2_2_2_2_2_1 (r_n (x := (0 : Int32)) (l := 0) (h := 0) (by decide) (by decide)) c1
    refine tp_if (fun c4 => ?_) (fun c4 => ?_)
    · skip
      have r5 : R32 (0) (0) ((k3 >>> ((0 : Int32) &&& (31 : Int32))) &&& (1 : Int32)) := r_eq1 (l := 0) (h := 0) (by decide) (by decide) r_and1 (r_n (x := (0 : Int32)) (l := 0) (h := 0) (by decide) (by decide)) c4
      refine tp_b (t_f_X8_fill_s1 h_k3 h_k4 (r_w (l' := 0) (h' := 6719) h_s_s_2_2 (by decide) (by decide)) h_p_p_1 h_p_p_2_1 h_p_p_2_2_2_2_1 r3 h_p_p_2_2_2_2_2_2_1 h_p_p_2_2_2_2_2_2_2_1) (fun o45 h6 => ?_)
      exact tp_s h6
    · skip
      have r7 : R32 (1) (1) ((k3 >>> ((0 : Int32) &&& (31 : Int32))) &&& (1 : Int32)) := r_neL (by decide) r_and1 (r_n (x := (0 : Int32)) (l := 0) (h := 0) (by decide) (by decide)) c4
      exact t_f_X8_fill_s0_L52 h_k3 h_k4 h_p_p_1 h_p_p_2_1 h_p_p_2_2_2_2_1 r3 h_p_p_2_2_2_2_2_2_1 h_p_p_2_2_2_2_2_2_2_1 FU _ _ (r_w (l' := 0) (h' := 8) (r_n (x := (0 : Int32)) (l := 0) (h := 0) (by decide) (by decide)) (by decide) (by decide)) (r_w (l' := 0) (h' := 6720) h_s_s_2_2 (by decide) (by decide)) (fu_up (r_w (l' := 0) (h' := 8) (r_n (x := (0 : Int32)) (l := 0) (h := 0) (by decide) (by decide)) (by decide) (by decide)) (by decide))
theorem t_f_X8_countRows {k2 : Int32} {k3 : Int32} {s_s : TX8_s} {p_p : TX6_p} (h_k2 : R32 (0) (31) k2) (h_k3 : R32 (1) (6720) k3) (h_p_p_1 : R32 (0) (8) p_p.1) (h_p_p_2_1 : R32 (0) (9) p_p.2.1) (h_p_p_2_2_2_2_1 : R32 (0) (4) p_p.2.2.2.2.1) (h_p_p_2_2_2_2_2_1 : R32 (0) (5) p_p.2.2.2.2.2.1) (h_p_p_2_2_2_2_2_2_1 : R32 (0) (6) p_p.2.2.2.2.2.2.1) (h_p_p_2_2_2_2_2_2_2_1 : R32 (0) (6) p_p.2.2.2.2.2.2.2.1) : TotP (f_X8_countRows k2 k3 s_s p_p) (fun (r : Int32 × TX8_s) => R32 (0) (6720) r.1 ∧ R32 (0) (6720) r.2.2.2) := by
  unfold f_X8_countRows
  refine tp_b (t_f_X8_fill_s0 h_k2 h_k3 (r_n (x := (0 : Int32)) (l := 0) (h := 0) (by decide) (by decide)) h_p_p_1 h_p_p_2_1 h_p_p_2_2_2_2_1 h_p_p_2_2_2_2_2_1 h_p_p_2_2_2_2_2_2_1 h_p_p_2_2_2_2_2_2_2_1) (fun o10 h1 => ?_)
  exact tp_s ⟨h1, h1⟩
theorem t_f_X10_seatings {x_x : TX10_x} {p_p : TX6_p} {s_s : TX8_s} (h_p_p_1 : R32 (0) (8) p_p.1) (h_p_p_2_1 : R32 (0) (9) p_p.2.1) (h_p_p_2_2_2_2_1 : R32 (0) (4) p_p.2.2.2.2.1) (h_p_p_2_2_2_2_2_1 : R32 (0) (5) p_p.2.2.2.2.2.1) (h_p_p_2_2_2_2_2_2_1 : R32 (0) (6) p_p.2.2.2.2.2.2.1) (h_p_p_2_2_2_2_2_2_2_1 : R32 (0) (6) p_p.2.2.2.2.2.2.2.1) : TotP (f_X10_seatings x_x p_p s_s) (fun (r : Int32 × TX10_x × TX8_s) => R32 (-1) (6720) r.1 ∧ R32 (0) (6) r.2.1.1) := by
  unfold f_X10_seatings
  refine tp_e (f_X10_pierTrouble.eq_1 _) ?_
  refine tp_nif (fun c1 => ?_) (fun c1 => ?_)
  · skip
    have r2 : R32 (0) (0) p_p.1 := r_eq1 (l := 0) (h := 0) (by decide) (by decide) h_p_p_1 (r_n (x := (0 : Int32)) (l := 0) (h := 0) (by decide) (by decide)) c1
    refine tp_nl ?_
    refine tp_iff (d_ne2 (r_n (x := (1 : Int32)) (l := 1) (h := 1) (by decide) (by decide)) (r_n (x := (0 : Int32)) (l := 0) (h := 0) (by decide) (by decide)) (by decide)) ?_
    refine tp_u (f_X10_seatings_J25.eq_1 _ _ _ _) ?_
    refine tp_u (f_X10_seatings_J26.eq_1 _ _ _ _) ?_
    refine tp_e (f_X10_refused.eq_1 _ _) ?_
    refine tp_niff (d_ne2 (r_n (x := (1 : Int32)) (l := 1) (h := 1) (by decide) (by decide)) (r_n (x := (0 : Int32)) (l := 0) (h := 0) (by decide) (by decide)) (by decide)) ?_
    refine tp_nl ?_
    refine tp_iff (d_ne2 (r_n (x := (1 : Int32)) (l := 1) (h := 1) (by decide) (by decide)) (r_n (x := (0 : Int32)) (l := 0) (h := 0) (by decide) (by decide)) (by decide)) ?_
    exact tp_s ⟨(r_w (l' := -1) (h' := 6720) (r_n (x := (-1 : Int32)) (l := -1) (h := -1) (by decide) (by decide)) (by decide) (by decide)), (r_w (l' := 0) (h' := 6) (r_n (x := (1 : Int32)) (l := 1) (h := 1) (by decide) (by decide)) (by decide) (by decide))⟩
  · skip
    have r3 : R32 (1) (8) p_p.1 := r_neL (by decide) h_p_p_1 (r_n (x := (0 : Int32)) (l := 0) (h := 0) (by decide) (by decide)) c1
    refine tp_nl ?_
    refine tp_ift (d_eq (r_n (x := (0 : Int32)) (l := 0) (h := 0) (by decide) (by decide)) (r_n (x := (0 : Int32)) (l := 0) (h := 0) (by decide) (by decide))) ?_
    refine tp_if (fun c4 => ?_) (fun c4 => ?_)
    · skip
      have r5 : R32 (0) (0) p_p.2.2.2.2.2.1 := r_eq1 (l := 0) (h := 0) (by decide) (by decide) h_p_p_2_2_2_2_2_1 (r_n (x := (0 : Int32)) (l := 0) (h := 0) (by decide) (by decide)) c4
      refine tp_u (f_X10_seatings_J26.eq_1 _ _ _ _) ?_
      refine tp_e (f_X10_refused.eq_1 _ _) ?_
      refine tp_niff (d_ne2 (r_n (x := (6 : Int32)) (l := 6) (h := 6) (by decide) (by decide)) (r_n (x := (0 : Int32)) (l := 0) (h := 0) (by decide) (by decide)) (by decide)) ?_
      refine tp_nl ?_
      refine tp_iff (d_ne2 (r_n (x := (1 : Int32)) (l := 1) (h := 1) (by decide) (by decide)) (r_n (x := (0 : Int32)) (l := 0) (h := 0) (by decide) (by decide)) (by decide)) ?_
      exact tp_s ⟨(r_w (l' := -1) (h' := 6720) (r_n (x := (-1 : Int32)) (l := -1) (h := -1) (by decide) (by decide)) (by decide) (by decide)), (r_w (l' := 0) (h' := 6) (r_n (x := (6 : Int32)) (l := 6) (h := 6) (by decide) (by decide)) (by decide) (by decide))⟩
    · skip
      have r6 : R32 (1) (5) p_p.2.2.2.2.2.1 := r_neL (by decide) h_p_p_2_2_2_2_2_1 (r_n (x := (0 : Int32)) (l := 0) (h := 0) (by decide) (by decide)) c4
      refine tp_u (f_X10_seatings_J25.eq_1 _ _ _ _) ?_
      refine tp_u (f_X10_seatings_J26.eq_1 _ _ _ _) ?_
      refine tp_e (f_X10_refused.eq_1 _ _) ?_
      refine tp_nift (d_eq (r_n (x := (0 : Int32)) (l := 0) (h := 0) (by decide) (by decide)) (r_n (x := (0 : Int32)) (l := 0) (h := 0) (by decide) (by decide))) ?_
      refine tp_nl ?_
      refine tp_ift (d_eq (r_n (x := (0 : Int32)) (l := 0) (h := 0) (by decide) (by decide)) (r_n (x := (0 : Int32)) (l := 0) (h := 0) (by decide) (by decide))) ?_
      refine tp_e (f_X10_everyAsker.eq_1 _) ?_
      refine tp_n (P := fun z => R32 (1) (31) z) (r_sub (l := 1) (h := 31) (r_shl 1 5 (l := 2) (h := 32) r6 (by decide) (by decide) (by decide)) (r_n (x := (1 : Int32)) (l := 1) (h := 1) (by decide) (by decide)) (by decide) (by decide) (by decide) (by decide)) (fun o43 h7 => ?_)
      refine tp_b (t_f_X8_countRows (r_w (l' := 0) (h' := 31) h7 (by decide) (by decide)) (r_w (l' := 1) (h' := 6720) (r_n (x := (6720 : Int32)) (l := 6720) (h := 6720) (by decide) (by decide)) (by decide) (by decide)) (r_w (l' := 0) (h' := 8) r3 (by decide) (by decide)) h_p_p_2_1 h_p_p_2_2_2_2_1 (r_w (l' := 0) (h' := 5) r6 (by decide) (by decide)) h_p_p_2_2_2_2_2_2_1 h_p_p_2_2_2_2_2_2_2_1) (fun o49 h8 => ?_)
      obtain ⟨r9, r10⟩ := h8
      exact tp_s ⟨(r_w (l' := -1) (h' := 6720) r9 (by decide) (by decide)), (r_w (l' := 0) (h' := 6) (r_n (x := (0 : Int32)) (l := 0) (h := 0) (by decide) (by decide)) (by decide) (by decide))⟩
theorem t_f_X10_seat {k1 : Int32} {x_x : TX10_x} {p_p : TX6_p} {s_s : TX8_s} (h_p_p_1 : R32 (0) (8) p_p.1) (h_p_p_2_1 : R32 (0) (9) p_p.2.1) (h_p_p_2_2_2_2_1 : R32 (0) (4) p_p.2.2.2.2.1) (h_p_p_2_2_2_2_2_1 : R32 (0) (5) p_p.2.2.2.2.2.1) (h_p_p_2_2_2_2_2_2_1 : R32 (0) (6) p_p.2.2.2.2.2.2.1) (h_p_p_2_2_2_2_2_2_2_1 : R32 (0) (6) p_p.2.2.2.2.2.2.2.1) : TotP (f_X10_seat k1 x_x p_p s_s) (fun (r : Int32 × TX10_x × TX8_s) => R32 (0) (1) r.2.1.1) := by
  unfold f_X10_seat
  refine tp_e (f_X10_askerTrouble.eq_1 _ _) ?_
  refine tp_nn ?_
  refine tp_e (f_X6_hasAsker.eq_1 _ _) ?_
  refine tp_nn ?_
  refine tp_e (f_X10_within.eq_1 _ _ _) ?_
  refine tp_nif (fun c1 => ?_) (fun c1 => ?_)
  · skip
    have r2 : R32 (-2147483648) (-1) k1 := r_lt1 (by decide) (r_top _) (r_n (x := (0 : Int32)) (l := 0) (h := 0) (by decide) (by decide)) c1
    refine tp_nl ?_
    refine tp_nl ?_
    refine tp_nift (d_eq (r_n (x := (0 : Int32)) (l := 0) (h := 0) (by decide) (by decide)) (r_n (x := (0 : Int32)) (l := 0) (h := 0) (by decide) (by decide))) ?_
    refine tp_nl ?_
    refine tp_e (f_X10_refused.eq_1 _ _) ?_
    refine tp_niff (d_ne2 (r_n (x := (1 : Int32)) (l := 1) (h := 1) (by decide) (by decide)) (r_n (x := (0 : Int32)) (l := 0) (h := 0) (by decide) (by decide)) (by decide)) ?_
    refine tp_nl ?_
    refine tp_iff (d_ne2 (r_n (x := (1 : Int32)) (l := 1) (h := 1) (by decide) (by decide)) (r_n (x := (0 : Int32)) (l := 0) (h := 0) (by decide) (by decide)) (by decide)) ?_
    exact tp_s (r_w (l' := 0) (h' := 1) (r_n (x := (1 : Int32)) (l := 1) (h := 1) (by decide) (by decide)) (by decide) (by decide))
  · skip
    have r3 : R32 (0) (2147483647) k1 := r_nlt1 (r_top _) (r_n (x := (0 : Int32)) (l := 0) (h := 0) (by decide) (by decide)) c1
    refine tp_nif (fun c4 => ?_) (fun c4 => ?_)
    · skip
      refine tp_nl ?_
      refine tp_nl ?_
      refine tp_nift (d_eq (r_n (x := (0 : Int32)) (l := 0) (h := 0) (by decide) (by decide)) (r_n (x := (0 : Int32)) (l := 0) (h := 0) (by decide) (by decide))) ?_
      refine tp_nl ?_
      refine tp_e (f_X10_refused.eq_1 _ _) ?_
      refine tp_niff (d_ne2 (r_n (x := (1 : Int32)) (l := 1) (h := 1) (by decide) (by decide)) (r_n (x := (0 : Int32)) (l := 0) (h := 0) (by decide) (by decide)) (by decide)) ?_
      refine tp_nl ?_
      refine tp_iff (d_ne2 (r_n (x := (1 : Int32)) (l := 1) (h := 1) (by decide) (by decide)) (r_n (x := (0 : Int32)) (l := 0) (h := 0) (by decide) (by decide)) (by decide)) ?_
      exact tp_s (r_w (l' := 0) (h' := 1) (r_n (x := (1 : Int32)) (l := 1) (h := 1) (by decide) (by decide)) (by decide) (by decide))
    · skip
      have r5 : R32 (0) (4) (p_p.2.2.2.2.2.1 - (1 : Int32)) := r_nlt1 (r_sub (l := -1) (h := 4) h_p_p_2_2_2_2_2_1 (r_n (x := (1 : Int32)) (l := 1) (h := 1) (by decide) (by decide)) (by decide) (by decide) (by decide) (by decide)) r3 c4
      have r6 : R32 (0) (4) k1 := r_nlt2 (r_sub (l := -1) (h := 4) h_p_p_2_2_2_2_2_1 (r_n (x := (1 : Int32)) (l := 1) (h := 1) (by decide) (by decide)) (by decide) (by decide) (by decide) (by decide)) r3 c4
      refine tp_nl ?_
      refine tp_nl ?_
      refine tp_niff (d_ne2 (r_n (x := (1 : Int32)) (l := 1) (h := 1) (by decide) (by decide)) (r_n (x := (0 : Int32)) (l := 0) (h := 0) (by decide) (by decide)) (by decide)) ?_
      refine tp_nl ?_
      refine tp_e (f_X10_refused.eq_1 _ _) ?_
      refine tp_nift (d_eq (r_n (x := (0 : Int32)) (l := 0) (h := 0) (by decide) (by decide)) (r_n (x := (0 : Int32)) (l := 0) (h := 0) (by decide) (by decide))) ?_
      refine tp_nl ?_
      refine tp_ift (d_eq (r_n (x := (0 : Int32)) (l := 0) (h := 0) (by decide) (by decide)) (r_n (x := (0 : Int32)) (l := 0) (h := 0) (by decide) (by decide))) ?_
      refine tp_e (f_X10_everyAsker.eq_1 _) ?_
      refine tp_n (P := fun z => R32 (0) (31) z) (r_sub (l := 0) (h := 31) (r_shl 0 5 (l := 1) (h := 32) h_p_p_2_2_2_2_2_1 (by decide) (by decide) (by decide)) (r_n (x := (1 : Int32)) (l := 1) (h := 1) (by decide) (by decide)) (by decide) (by decide) (by decide) (by decide)) (fun o23 h7 => ?_)
      refine tp_b (t_f_X8_countRows h7 (r_w (l' := 1) (h' := 6720) (r_n (x := (1 : Int32)) (l := 1) (h := 1) (by decide) (by decide)) (by decide) (by decide)) h_p_p_1 h_p_p_2_1 h_p_p_2_2_2_2_1 h_p_p_2_2_2_2_2_1 h_p_p_2_2_2_2_2_2_1 h_p_p_2_2_2_2_2_2_2_1) (fun o27 h8 => ?_)
      obtain ⟨r9, r10⟩ := h8
      refine tp_if (fun c11 => ?_) (fun c11 => ?_)
      · skip
        have r12 : R32 (0) (0) o27.1 := r_eq1 (l := 0) (h := 0) (by decide) (by decide) r9 (r_n (x := (0 : Int32)) (l := 0) (h := 0) (by decide) (by decide)) c11
        exact tp_s (r_w (l' := 0) (h' := 1) (r_n (x := (0 : Int32)) (l := 0) (h := 0) (by decide) (by decide)) (by decide) (by decide))
      · skip
        have r13 : R32 (1) (6720) o27.1 := r_neL (by decide) r9 (r_n (x := (0 : Int32)) (l := 0) (h := 0) (by decide) (by decide)) c11
        refine tp_g r6 (by decide) (by decide) ?_
        exact tp_s (r_w (l' := 0) (h' := 1) (r_n (x := (0 : Int32)) (l := 0) (h := 0) (by decide) (by decide)) (by decide) (by decide))
theorem t_f_X10_mostSeated_J54 {k17_ : Int32 → Int32 → TX8_s → Option (Int32 × TX10_x × TX8_s)} {v17_l2 : Int32} {v54_s_s : TX8_s} {v54_l1 : Int32} {N17 : Nat} (hk17 : ∀ (v17_l2 : Int32) (v17_l1 : Int32) (v17_s_s : TX8_s), R32 (1) (32) v17_l2 → R32 (0) (31) v17_l1 → (32 : Int) - v17_l2.toInt < (N17 : Nat) → TotP (k17_ v17_l2 v17_l1 v17_s_s) (fun (r : Int32 × TX10_x × TX8_s) => R32 (-1) (31) r.1 ∧ R32 (0) (1) r.2.1.1)) (hm17 : (32 : Int) - v17_l2.toInt < ((N17 + 1 : Nat) : Int)) (h_v17_l2 : R32 (1) (31) v17_l2) (h_v54_l1 : R32 (0) (31) v54_l1) : TotP (f_X10_mostSeated_J54 k17_ v17_l2 v54_s_s v54_l1) (fun (r : Int32 × TX10_x × TX8_s) => R32 (-1) (31) r.1 ∧ R32 (0) (1) r.2.1.1) := by
  unfold f_X10_mostSeated_J54
  exact hk17 _ _ _ (r_w (l' := 1) (h' := 32) (r_add (l := 2) (h := 32) h_v17_l2 (r_n (x := (1 : Int32)) (l := 1) (h := 1) (by decide) (by decide)) (by decide) (by decide) (by decide) (by decide)) (by decide) (by decide)) h_v54_l1 (ms_up (y := (1 : Int32)) h_v17_l2 (by decide) (by decide) (by decide) hm17)
theorem t_f_X10_mostSeated_L17 {p_p : TX6_p} {o5 : (Int32 × TX10_x)} (h_p_p_1 : R32 (1) (8) p_p.1) (h_p_p_2_1 : R32 (0) (9) p_p.2.1) (h_p_p_2_2_2_2_1 : R32 (0) (4) p_p.2.2.2.2.1) (h_p_p_2_2_2_2_2_1 : R32 (0) (5) p_p.2.2.2.2.2.1) (h_p_p_2_2_2_2_2_2_1 : R32 (0) (6) p_p.2.2.2.2.2.2.1) (h_p_p_2_2_2_2_2_2_2_1 : R32 (0) (6) p_p.2.2.2.2.2.2.2.1) (h_o5_1 : R32 (0) (0) o5.1) (h_o5_2_1 : R32 (0) (0) o5.2.1) : ∀ (n : Nat) (v17_l2 : Int32) (v17_l1 : Int32) (v17_s_s : TX8_s), R32 (1) (32) v17_l2 → R32 (0) (31) v17_l1 → (32 : Int) - v17_l2.toInt < (n : Int) → TotP (f_X10_mostSeated_L17 p_p o5 n v17_l2 v17_l1 v17_s_s) (fun (r : Int32 × TX10_x × TX8_s) => R32 (-1) (31) r.1 ∧ R32 (0) (1) r.2.1.1) := by
  intro n
  induction n with
  | zero =>
    intro v17_l2 v17_l1 v17_s_s h_v17_l2 h_v17_l1 hm
    exact (ms_0u h_v17_l2 hm).elim
  | succ n ih =>
    intro v17_l2 v17_l1 v17_s_s h_v17_l2 h_v17_l1 hm
    rw [f_X10_mostSeated_L17]
    refine tp_e (f_X10_everyAsker.eq_1 _) ?_
    refine tp_n (P := fun z => R32 (0) (31) z) (r_sub (l := 0) (h := 31) (r_shl 0 5 (l := 1) (h := 32) h_p_p_2_2_2_2_2_1 (by decide) (by decide) (by decide)) (r_n (x := (1 : Int32)) (l := 1) (h := 1) (by decide) (by decide)) (by decide) (by decide) (by decide) (by decide)) (fun o19 h1 => ?_)
    refine tp_if (fun c2 => ?_) (fun c2 => ?_)
    · skip
      exact tp_s ⟨(r_w (l' := -1) (h' := 31) h_v17_l1 (by decide) (by decide)), (r_w (l' := 0) (h' := 1) h_o5_2_1 (by decide) (by decide))⟩
    · skip
      have r3 : R32 (1) (31) o19 := r_nlt1 h1 h_v17_l2 c2
      have r4 : R32 (1) (31) v17_l2 := r_nlt2 h1 h_v17_l2 c2
      refine tp_n0 (fun o26 => ?_)
      refine tp_n0 (fun o30 => ?_)
      refine tp_if (fun c5 => ?_) (fun c5 => ?_)
      · skip
        exact t_f_X10_mostSeated_J54 ih hm r4 h_v17_l1
      · skip
        have r6 : R32 (-2147483647) (2147483647) o26 := r_nle1 (by decide) (r_top _) (r_top _) c5
        have r7 : R32 (-2147483648) (2147483646) o30 := r_nle2 (by decide) (r_top _) (r_top _) c5
        refine tp_b (t_f_X8_countRows (r_w (l' := 0) (h' := 31) r4 (by decide) (by decide)) (r_w (l' := 1) (h' := 6720) (r_n (x := (1 : Int32)) (l := 1) (h := 1) (by decide) (by decide)) (by decide) (by decide)) (r_w (l' := 0) (h' := 8) h_p_p_1 (by decide) (by decide)) h_p_p_2_1 h_p_p_2_2_2_2_1 h_p_p_2_2_2_2_2_1 h_p_p_2_2_2_2_2_2_1 h_p_p_2_2_2_2_2_2_2_1) (fun o46 h8 => ?_)
        obtain ⟨r9, r10⟩ := h8
        refine tp_if (fun c11 => ?_) (fun c11 => ?_)
        · skip
          have r12 : R32 (0) (0) o46.1 := r_le1 r9 (r_n (x := (0 : Int32)) (l := 0) (h := 0) (by decide) (by decide)) c11
          exact t_f_X10_mostSeated_J54 ih hm r4 h_v17_l1
        · skip
          have r13 : R32 (1) (6720) o46.1 := r_nle1 (by decide) r9 (r_n (x := (0 : Int32)) (l := 0) (h := 0) (by decide) (by decide)) c11
          exact t_f_X10_mostSeated_J54 ih hm r4 (r_w (l' := 0) (h' := 31) r4 (by decide) (by decide))
theorem t_f_X10_mostSeated {x_x : TX10_x} {p_p : TX6_p} {s_s : TX8_s} (h_p_p_1 : R32 (0) (8) p_p.1) (h_p_p_2_1 : R32 (0) (9) p_p.2.1) (h_p_p_2_2_2_2_1 : R32 (0) (4) p_p.2.2.2.2.1) (h_p_p_2_2_2_2_2_1 : R32 (0) (5) p_p.2.2.2.2.2.1) (h_p_p_2_2_2_2_2_2_1 : R32 (0) (6) p_p.2.2.2.2.2.2.1) (h_p_p_2_2_2_2_2_2_2_1 : R32 (0) (6) p_p.2.2.2.2.2.2.2.1) : TotP (f_X10_mostSeated x_x p_p s_s) (fun (r : Int32 × TX10_x × TX8_s) => R32 (-1) (31) r.1 ∧ R32 (0) (1) r.2.1.1) := by
  unfold f_X10_mostSeated
  refine tp_e (f_X10_pierTrouble.eq_1 _) ?_
  refine tp_nif (fun c1 => ?_) (fun c1 => ?_)
  · skip
    have r2 : R32 (0) (0) p_p.1 := r_eq1 (l := 0) (h := 0) (by decide) (by decide) h_p_p_1 (r_n (x := (0 : Int32)) (l := 0) (h := 0) (by decide) (by decide)) c1
    refine tp_nl ?_
    refine tp_e (f_X10_refused.eq_1 _ _) ?_
    refine tp_niff (d_ne2 (r_n (x := (1 : Int32)) (l := 1) (h := 1) (by decide) (by decide)) (r_n (x := (0 : Int32)) (l := 0) (h := 0) (by decide) (by decide)) (by decide)) ?_
    refine tp_nl ?_
    refine tp_iff (d_ne2 (r_n (x := (1 : Int32)) (l := 1) (h := 1) (by decide) (by decide)) (r_n (x := (0 : Int32)) (l := 0) (h := 0) (by decide) (by decide)) (by decide)) ?_
    exact tp_s ⟨(r_w (l' := -1) (h' := 31) (r_n (x := (-1 : Int32)) (l := -1) (h := -1) (by decide) (by decide)) (by decide) (by decide)), (r_w (l' := 0) (h' := 1) (r_n (x := (1 : Int32)) (l := 1) (h := 1) (by decide) (by decide)) (by decide) (by decide))⟩
  · skip
    have r3 : R32 (1) (8) p_p.1 := r_neL (by decide) h_p_p_1 (r_n (x := (0 : Int32)) (l := 0) (h := 0) (by decide) (by decide)) c1
    refine tp_nl ?_
    refine tp_e (f_X10_refused.eq_1 _ _) ?_
    refine tp_nift (d_eq (r_n (x := (0 : Int32)) (l := 0) (h := 0) (by decide) (by decide)) (r_n (x := (0 : Int32)) (l := 0) (h := 0) (by decide) (by decide))) ?_
    refine tp_nl ?_
    refine tp_ift (d_eq (r_n (x := (0 : Int32)) (l := 0) (h := 0) (by decide) (by decide)) (r_n (x := (0 : Int32)) (l := 0) (h := 0) (by decide) (by decide))) ?_
    exact t_f_X10_mostSeated_L17 r3 h_p_p_2_1 h_p_p_2_2_2_2_1 h_p_p_2_2_2_2_2_1 h_p_p_2_2_2_2_2_2_1 h_p_p_2_2_2_2_2_2_2_1 (r_n (x := (0 : Int32)) (l := 0) (h := 0) (by decide) (by decide)) (r_n (x := (0 : Int32)) (l := 0) (h := 0) (by decide) (by decide)) FU _ _ _ (r_w (l' := 1) (h' := 32) (r_n (x := (1 : Int32)) (l := 1) (h := 1) (by decide) (by decide)) (by decide) (by decide)) (r_w (l' := 0) (h' := 31) (r_n (x := (0 : Int32)) (l := 0) (h := 0) (by decide) (by decide)) (by decide) (by decide)) (fu_up (r_w (l' := 1) (h' := 32) (r_n (x := (1 : Int32)) (l := 1) (h := 1) (by decide) (by decide)) (by decide) (by decide)) (by decide))
theorem t_f_X0_isAsTold_L2 {k1 : Int32} {p_p : TX6_p} (h_k1 : R32 (0) (899) k1) (h_p_p_1 : R32 (1) (8) p_p.1) (h_p_p_2_1 : R32 (1) (9) p_p.2.1) (h_p_p_2_2_2_2_1 : R32 (0) (4) p_p.2.2.2.2.1) (h_p_p_2_2_2_2_2_1 : R32 (0) (5) p_p.2.2.2.2.2.1) (h_p_p_2_2_2_2_2_2_1 : R32 (0) (6) p_p.2.2.2.2.2.2.1) (h_p_p_2_2_2_2_2_2_2_1 : R32 (0) (6) p_p.2.2.2.2.2.2.2.1) : ∀ (n : Nat) (v2_l2 : Int32), R32 (0) (6) v2_l2 → (6 : Int) - v2_l2.toInt < (n : Int) → TotP (f_X0_isAsTold_L2 k1 p_p n v2_l2) (fun (r : Int32) => R32 (0) (1) r) := by
  intro n
  induction n with
  | zero =>
    intro v2_l2 h_v2_l2 hm
    exact (ms_0u h_v2_l2 hm).elim
  | succ n ih =>
    intro v2_l2 h_v2_l2 hm
    rw [f_X0_isAsTold_L2]
    refine tp_if (fun c1 => ?_) (fun c1 => ?_)
    · skip
      exact tp_s (r_w (l' := 0) (h' := 1) (r_n (x := (1 : Int32)) (l := 1) (h := 1) (by decide) (by decide)) (by decide) (by decide))
    · skip
      have r2 : R32 (1) (6) p_p.2.2.2.2.2.2.2.1 := r_nle1 (by decide) h_p_p_2_2_2_2_2_2_2_1 h_v2_l2 c1
      have r3 : R32 (0) (5) v2_l2 := r_nle2 (by decide) h_p_p_2_2_2_2_2_2_2_1 h_v2_l2 c1
      refine tp_g r3 (by decide) (by decide) ?_
      refine tp_n0 (fun z20 => ?_)
      refine tp_e (f_X0_wouldBite.eq_1 _ _ _) ?_
      refine tp_nn ?_
      refine tp_e (f_X10_baitOf.eq_1 _) ?_
      refine tp_n (P := fun z => R32 (0) (9) z) (r_mod (c := 10) (h := 9) (y := (10 : Int32)) h_k1 (by decide) (by decide) (by decide) (by decide)) (fun o2 h4 => ?_)
      refine tp_nn ?_
      refine tp_e (f_X10_baitOf.eq_1 _) ?_
      refine tp_n0 (fun o6 => ?_)
      refine tp_nif (fun c5 => ?_) (fun c5 => ?_)
      · skip
        have r6 : R32 (0) (9) o6 := r_eq2 (l := 0) (h := 9) (by decide) (by decide) h4 (r_top _) c5
        refine tp_e (f_X0_wouldBite_J18.eq_1 _ _ _ _) ?_
        refine tp_nn ?_
        refine tp_e (f_X10_spotOf.eq_1 _) ?_
        refine tp_n (P := fun z => R32 (0) (8) z) (r_div (l := 0) (h := 8) h_k1 (r_n (x := (100 : Int32)) (l := 100) (h := 100) (by decide) (by decide)) (by decide) (by decide) (by decide) (by decide)) (fun o22 h7 => ?_)
        refine tp_nn ?_
        refine tp_e (f_X10_spotOf.eq_1 _) ?_
        refine tp_n0 (fun o26 => ?_)
        refine tp_nn ?_
        refine tp_n0 (fun z30 => ?_)
        refine tp_nn ?_
        refine tp_e (f_X10_fathomsOf.eq_1 _) ?_
        refine tp_nn ?_
        refine tp_n (P := fun z => R32 (0) (9) z) (r_mod (c := 10) (h := 9) (y := (10 : Int32)) (r_div (l := 0) (h := 89) h_k1 (r_n (x := (10 : Int32)) (l := 10) (h := 10) (by decide) (by decide)) (by decide) (by decide) (by decide) (by decide)) (by decide) (by decide) (by decide) (by decide)) (fun z6 h8 => ?_)
        refine tp_nl ?_
        refine tp_nn ?_
        refine tp_e (f_X10_fathomsOf.eq_1 _) ?_
        refine tp_nn ?_
        refine tp_n0 (fun z6_9 => ?_)
        refine tp_nl ?_
        refine tp_nn ?_
        refine tp_n0 (fun z46 => ?_)
        refine tp_nn ?_
        refine tp_n0 (fun z50 => ?_)
        refine tp_nif (fun c10 => ?_) (fun c10 => ?_)
        · skip
          have r11 : R32 (-2147483648) (49) z50 := r_lt1 (by decide) (r_top _) (r_n (x := (50 : Int32)) (l := 50) (h := 50) (by decide) (by decide)) c10
          refine tp_nl ?_
          refine tp_g r3 (by decide) (by decide) ?_
          refine tp_n0 (fun z29 => ?_)
          refine tp_if (fun c12 => ?_) (fun c12 => ?_)
          · skip
            have r13 : R32 (0) (0) z29 := r_eq2 (l := 0) (h := 0) (by decide) (by decide) (r_n (x := (0 : Int32)) (l := 0) (h := 0) (by decide) (by decide)) (r_top _) c12
            exact ih _ (r_w (l' := 0) (h' := 6) (r_add (l := 1) (h := 6) r3 (r_n (x := (1 : Int32)) (l := 1) (h := 1) (by decide) (by decide)) (by decide) (by decide) (by decide) (by decide)) (by decide) (by decide)) (ms_up (y := (1 : Int32)) r3 (by decide) (by decide) (by decide) hm)
          · skip
            exact tp_s (r_w (l' := 0) (h' := 1) (r_n (x := (0 : Int32)) (l := 0) (h := 0) (by decide) (by decide)) (by decide) (by decide))
        · skip
          have r14 : R32 (50) (2147483647) z50 := r_nlt1 (r_top _) (r_n (x := (50 : Int32)) (l := 50) (h := 50) (by decide) (by decide)) c10
          refine tp_nl ?_
          refine tp_g r3 (by decide) (by decide) ?_
          refine tp_n0 (fun z29 => ?_)
          refine tp_if (fun c15 => ?_) (fun c15 => ?_)
          · skip
            have r16 : R32 (1) (1) z29 := r_eq2 (l := 1) (h := 1) (by decide) (by decide) (r_n (x := (1 : Int32)) (l := 1) (h := 1) (by decide) (by decide)) (r_top _) c15
            exact ih _ (r_w (l' := 0) (h' := 6) (r_add (l := 1) (h := 6) r3 (r_n (x := (1 : Int32)) (l := 1) (h := 1) (by decide) (by decide)) (by decide) (by decide) (by decide) (by decide)) (by decide) (by decide)) (ms_up (y := (1 : Int32)) r3 (by decide) (by decide) (by decide) hm)
          · skip
            exact tp_s (r_w (l' := 0) (h' := 1) (r_n (x := (0 : Int32)) (l := 0) (h := 0) (by decide) (by decide)) (by decide) (by decide))
      · skip
        refine tp_e (f_X0_wouldBite_J18.eq_1 _ _ _ _) ?_
        refine tp_nn ?_
        refine tp_e (f_X10_spotOf.eq_1 _) ?_
        refine tp_n (P := fun z => R32 (0) (8) z) (r_div (l := 0) (h := 8) h_k1 (r_n (x := (100 : Int32)) (l := 100) (h := 100) (by decide) (by decide)) (by decide) (by decide) (by decide) (by decide)) (fun o22_17 h18 => ?_)
        refine tp_nn ?_
        refine tp_e (f_X10_spotOf.eq_1 _) ?_
        refine tp_n0 (fun o26_19 => ?_)
        refine tp_nn ?_
        refine tp_n0 (fun z30_20 => ?_)
        refine tp_nn ?_
        refine tp_e (f_X10_fathomsOf.eq_1 _) ?_
        refine tp_nn ?_
        refine tp_n (P := fun z => R32 (0) (9) z) (r_mod (c := 10) (h := 9) (y := (10 : Int32)) (r_div (l := 0) (h := 89) h_k1 (r_n (x := (10 : Int32)) (l := 10) (h := 10) (by decide) (by decide)) (by decide) (by decide) (by decide) (by decide)) (by decide) (by decide) (by decide) (by decide)) (fun z6_21 h22 => ?_)
        refine tp_nl ?_
        refine tp_nn ?_
        refine tp_e (f_X10_fathomsOf.eq_1 _) ?_
        refine tp_nn ?_
        refine tp_n0 (fun z6_23 => ?_)
        refine tp_nl ?_
        refine tp_nn ?_
        refine tp_n0 (fun z46_24 => ?_)
        refine tp_nn ?_
        refine tp_n0 (fun z50_25 => ?_)
        refine tp_nif (fun c26 => ?_) (fun c26 => ?_)
        · skip
          have r27 : R32 (-2147483648) (49) z50_25 := r_lt1 (by decide) (r_top _) (r_n (x := (50 : Int32)) (l := 50) (h := 50) (by decide) (by decide)) c26
          refine tp_nl ?_
          refine tp_g r3 (by decide) (by decide) ?_
          refine tp_n0 (fun z29 => ?_)
          refine tp_if (fun c28 => ?_) (fun c28 => ?_)
          · skip
            have r29 : R32 (0) (0) z29 := r_eq2 (l := 0) (h := 0) (by decide) (by decide) (r_n (x := (0 : Int32)) (l := 0) (h := 0) (by decide) (by decide)) (r_top _) c28
            exact ih _ (r_w (l' := 0) (h' := 6) (r_add (l := 1) (h := 6) r3 (r_n (x := (1 : Int32)) (l := 1) (h := 1) (by decide) (by decide)) (by decide) (by decide) (by decide) (by decide)) (by decide) (by decide)) (ms_up (y := (1 : Int32)) r3 (by decide) (by decide) (by decide) hm)
          · skip
            exact tp_s (r_w (l' := 0) (h' := 1) (r_n (x := (0 : Int32)) (l := 0) (h := 0) (by decide) (by decide)) (by decide) (by decide))
        · skip
          have r30 : R32 (50) (2147483647) z50_25 := r_nlt1 (r_top _) (r_n (x := (50 : Int32)) (l := 50) (h := 50) (by decide) (by decide)) c26
          refine tp_nl ?_
          refine tp_g r3 (by decide) (by decide) ?_
          refine tp_n0 (fun z29 => ?_)
          refine tp_if (fun c31 => ?_) (fun c31 => ?_)
          · skip
            have r32 : R32 (1) (1) z29 := r_eq2 (l := 1) (h := 1) (by decide) (by decide) (r_n (x := (1 : Int32)) (l := 1) (h := 1) (by decide) (by decide)) (r_top _) c31
            exact ih _ (r_w (l' := 0) (h' := 6) (r_add (l := 1) (h := 6) r3 (r_n (x := (1 : Int32)) (l := 1) (h := 1) (by decide) (by decide)) (by decide) (by decide) (by decide) (by decide)) (by decide) (by decide)) (ms_up (y := (1 : Int32)) r3 (by decide) (by decide) (by decide) hm)
          · skip
            exact tp_s (r_w (l' := 0) (h' := 1) (r_n (x := (0 : Int32)) (l := 0) (h := 0) (by decide) (by decide)) (by decide) (by decide))
theorem t_f_X0_isAsTold {k1 : Int32} {p_p : TX6_p} (h_k1 : R32 (0) (899) k1) (h_p_p_1 : R32 (1) (8) p_p.1) (h_p_p_2_1 : R32 (1) (9) p_p.2.1) (h_p_p_2_2_2_2_1 : R32 (0) (4) p_p.2.2.2.2.1) (h_p_p_2_2_2_2_2_1 : R32 (0) (5) p_p.2.2.2.2.2.1) (h_p_p_2_2_2_2_2_2_1 : R32 (0) (6) p_p.2.2.2.2.2.2.1) (h_p_p_2_2_2_2_2_2_2_1 : R32 (0) (6) p_p.2.2.2.2.2.2.2.1) : TotP (f_X0_isAsTold k1 p_p) (fun (r : Int32) => R32 (0) (1) r) := by
  unfold f_X0_isAsTold
  exact t_f_X0_isAsTold_L2 h_k1 h_p_p_1 h_p_p_2_1 h_p_p_2_2_2_2_1 h_p_p_2_2_2_2_2_1 h_p_p_2_2_2_2_2_2_1 h_p_p_2_2_2_2_2_2_2_1 FU _ (r_w (l' := 0) (h' := 6) (r_n (x := (0 : Int32)) (l := 0) (h := 0) (by decide) (by decide)) (by decide) (by decide)) (fu_up (r_w (l' := 0) (h' := 6) (r_n (x := (0 : Int32)) (l := 0) (h := 0) (by decide) (by decide)) (by decide) (by decide)) (by decide))
theorem t_f_X0_find_J63 {k7_ : Int32 → TX0_d → Option TX0_d} {v7_l2 : Int32} {v63_d_d : TX0_d} {N7 : Nat} (hk7 : ∀ (v7_l2 : Int32) (v7_d_d : TX0_d), R32 (0) (900) v7_l2 → R32 (0) (288) v7_d_d.2 → (900 : Int) - v7_l2.toInt < (N7 : Nat) → TotP (k7_ v7_l2 v7_d_d) (fun (r : TX0_d) => R32 (0) (288) r.2)) (hm7 : (900 : Int) - v7_l2.toInt < ((N7 + 1 : Nat) : Int)) (h_v7_l2 : R32 (0) (899) v7_l2) (h_v63_d_d_2 : R32 (0) (288) v63_d_d.2) : TotP (f_X0_find_J63 k7_ v7_l2 v63_d_d) (fun (r : TX0_d) => R32 (0) (288) r.2) := by
  unfold f_X0_find_J63
  exact hk7 _ _ (r_w (l' := 0) (h' := 900) (r_add (l := 1) (h := 900) h_v7_l2 (r_n (x := (1 : Int32)) (l := 1) (h := 1) (by decide) (by decide)) (by decide) (by decide) (by decide) (by decide)) (by decide) (by decide)) h_v63_d_d_2 (ms_up (y := (1 : Int32)) h_v7_l2 (by decide) (by decide) (by decide) hm7)
theorem t_f_X0_find_L7 {p_p : TX6_p} (h_p_p_1 : R32 (1) (8) p_p.1) (h_p_p_2_1 : R32 (0) (9) p_p.2.1) (h_p_p_2_2_2_2_1 : R32 (0) (4) p_p.2.2.2.2.1) (h_p_p_2_2_2_2_2_1 : R32 (0) (5) p_p.2.2.2.2.2.1) (h_p_p_2_2_2_2_2_2_1 : R32 (0) (6) p_p.2.2.2.2.2.2.1) (h_p_p_2_2_2_2_2_2_2_1 : R32 (0) (6) p_p.2.2.2.2.2.2.2.1) : ∀ (n : Nat) (v7_l2 : Int32) (v7_d_d : TX0_d), R32 (0) (900) v7_l2 → R32 (0) (288) v7_d_d.2 → (900 : Int) - v7_l2.toInt < (n : Int) → TotP (f_X0_find_L7 p_p n v7_l2 v7_d_d) (fun (r : TX0_d) => R32 (0) (288) r.2) := by
  intro n
  induction n with
  | zero =>
    intro v7_l2 v7_d_d h_v7_l2 h_v7_d_d_2 hm
    exact (ms_0u h_v7_l2 hm).elim
  | succ n ih =>
    intro v7_l2 v7_d_d h_v7_l2 h_v7_d_d_2 hm
    rw [f_X0_find_L7]
    refine tp_e (f_X6_questionBound.eq_1 _) ?_
    refine tp_n (P := fun z => R32 (100) (800) z) (r_mul (l := 100) (h := 800) (r_n (x := (100 : Int32)) (l := 100) (h := 100) (by decide) (by decide)) h_p_p_1 (by decide) (by decide) (by decide) (by decide) (by decide)) (fun o9 h1 => ?_)
    refine tp_if (fun c2 => ?_) (fun c2 => ?_)
    · skip
      have r3 : R32 (100) (900) v7_l2 := r_le2 h1 h_v7_l2 c2
      exact tp_s h_v7_d_d_2
    · skip
      have r4 : R32 (0) (799) v7_l2 := r_nle2 (by decide) h1 h_v7_l2 c2
      refine tp_e (f_X6_hasQuestion.eq_1 _ _) ?_
      refine tp_nn ?_
      refine tp_e (f_X10_spotOf.eq_1 _) ?_
      refine tp_n (P := fun z => R32 (0) (7) z) (r_div (l := 0) (h := 7) r4 (r_n (x := (100 : Int32)) (l := 100) (h := 100) (by decide) (by decide)) (by decide) (by decide) (by decide) (by decide)) (fun o2 h5 => ?_)
      refine tp_nn ?_
      refine tp_e (f_X6_hasSpot.eq_1 _ _) ?_
      refine tp_nn ?_
      refine tp_e (f_X10_within.eq_1 _ _ _) ?_
      refine tp_niff (d_nlt h5 (r_n (x := (0 : Int32)) (l := 0) (h := 0) (by decide) (by decide)) (by decide)) ?_
      refine tp_nif (fun c6 => ?_) (fun c6 => ?_)
      · skip
        have r7 : R32 (0) (6) (p_p.1 - (1 : Int32)) := r_lt1 (by decide) (r_sub (l := 0) (h := 7) h_p_p_1 (r_n (x := (1 : Int32)) (l := 1) (h := 1) (by decide) (by decide)) (by decide) (by decide) (by decide) (by decide)) h5 c6
        have r8 : R32 (1) (7) o2 := r_lt2 (by decide) (r_sub (l := 0) (h := 7) h_p_p_1 (r_n (x := (1 : Int32)) (l := 1) (h := 1) (by decide) (by decide)) (by decide) (by decide) (by decide) (by decide)) h5 c6
        refine tp_nl ?_
        refine tp_nl ?_
        refine tp_nift (d_eq (r_n (x := (0 : Int32)) (l := 0) (h := 0) (by decide) (by decide)) (r_n (x := (0 : Int32)) (l := 0) (h := 0) (by decide) (by decide))) ?_
        refine tp_nl ?_
        refine tp_ift (d_eq (r_n (x := (0 : Int32)) (l := 0) (h := 0) (by decide) (by decide)) (r_n (x := (0 : Int32)) (l := 0) (h := 0) (by decide) (by decide))) ?_
        exact t_f_X0_find_J63 ih hm (r_w (l' := 0) (h' := 899) r4 (by decide) (by decide)) h_v7_d_d_2
      · skip
        refine tp_nl ?_
        refine tp_nl ?_
        refine tp_niff (d_ne2 (r_n (x := (1 : Int32)) (l := 1) (h := 1) (by decide) (by decide)) (r_n (x := (0 : Int32)) (l := 0) (h := 0) (by decide) (by decide)) (by decide)) ?_
        refine tp_nn ?_
        refine tp_e (f_X10_fathomsOf.eq_1 _) ?_
        refine tp_nn ?_
        refine tp_n (P := fun z => R32 (0) (9) z) (r_mod (c := 10) (h := 9) (y := (10 : Int32)) (r_div (l := 0) (h := 79) r4 (r_n (x := (10 : Int32)) (l := 10) (h := 10) (by decide) (by decide)) (by decide) (by decide) (by decide) (by decide)) (by decide) (by decide) (by decide) (by decide)) (fun z6 h9 => ?_)
        refine tp_nl ?_
        refine tp_nn ?_
        refine tp_e (f_X10_within.eq_1 _ _ _) ?_
        refine tp_nif (fun c10 => ?_) (fun c10 => ?_)
        · skip
          have r11 : R32 (0) (0) z6 := r_lt1 (by decide) h9 (r_n (x := (1 : Int32)) (l := 1) (h := 1) (by decide) (by decide)) c10
          refine tp_nl ?_
          refine tp_nift (d_eq (r_n (x := (0 : Int32)) (l := 0) (h := 0) (by decide) (by decide)) (r_n (x := (0 : Int32)) (l := 0) (h := 0) (by decide) (by decide))) ?_
          refine tp_nl ?_
          refine tp_ift (d_eq (r_n (x := (0 : Int32)) (l := 0) (h := 0) (by decide) (by decide)) (r_n (x := (0 : Int32)) (l := 0) (h := 0) (by decide) (by decide))) ?_
          exact t_f_X0_find_J63 ih hm (r_w (l' := 0) (h' := 899) r4 (by decide) (by decide)) h_v7_d_d_2
        · skip
          have r12 : R32 (1) (9) z6 := r_nlt1 h9 (r_n (x := (1 : Int32)) (l := 1) (h := 1) (by decide) (by decide)) c10
          refine tp_nif (fun c13 => ?_) (fun c13 => ?_)
          · skip
            have r14 : R32 (0) (8) p_p.2.1 := r_lt1 (by decide) h_p_p_2_1 r12 c13
            refine tp_nl ?_
            refine tp_nift (d_eq (r_n (x := (0 : Int32)) (l := 0) (h := 0) (by decide) (by decide)) (r_n (x := (0 : Int32)) (l := 0) (h := 0) (by decide) (by decide))) ?_
            refine tp_nl ?_
            refine tp_ift (d_eq (r_n (x := (0 : Int32)) (l := 0) (h := 0) (by decide) (by decide)) (r_n (x := (0 : Int32)) (l := 0) (h := 0) (by decide) (by decide))) ?_
            exact t_f_X0_find_J63 ih hm (r_w (l' := 0) (h' := 899) r4 (by decide) (by decide)) h_v7_d_d_2
          · skip
            have r15 : R32 (1) (9) p_p.2.1 := r_nlt1 h_p_p_2_1 r12 c13
            refine tp_nl ?_
            refine tp_niff (d_ne2 (r_n (x := (1 : Int32)) (l := 1) (h := 1) (by decide) (by decide)) (r_n (x := (0 : Int32)) (l := 0) (h := 0) (by decide) (by decide)) (by decide)) ?_
            refine tp_nn ?_
            refine tp_e (f_X10_baitOf.eq_1 _) ?_
            refine tp_n (P := fun z => R32 (0) (9) z) (r_mod (c := 10) (h := 9) (y := (10 : Int32)) r4 (by decide) (by decide) (by decide) (by decide)) (fun o28 h16 => ?_)
            refine tp_nn ?_
            refine tp_e (f_X6_hasBait.eq_1 _ _) ?_
            refine tp_nn ?_
            refine tp_e (f_X10_within.eq_1 _ _ _) ?_
            refine tp_niff (d_nlt h16 (r_n (x := (0 : Int32)) (l := 0) (h := 0) (by decide) (by decide)) (by decide)) ?_
            refine tp_nif (fun c17 => ?_) (fun c17 => ?_)
            · skip
              refine tp_nl ?_
              refine tp_nl ?_
              refine tp_nift (d_eq (r_n (x := (0 : Int32)) (l := 0) (h := 0) (by decide) (by decide)) (r_n (x := (0 : Int32)) (l := 0) (h := 0) (by decide) (by decide))) ?_
              refine tp_nl ?_
              refine tp_ift (d_eq (r_n (x := (0 : Int32)) (l := 0) (h := 0) (by decide) (by decide)) (r_n (x := (0 : Int32)) (l := 0) (h := 0) (by decide) (by decide))) ?_
              exact t_f_X0_find_J63 ih hm (r_w (l' := 0) (h' := 899) r4 (by decide) (by decide)) h_v7_d_d_2
            · skip
              have r18 : R32 (0) (3) (p_p.2.2.2.2.1 - (1 : Int32)) := r_nlt1 (r_sub (l := -1) (h := 3) h_p_p_2_2_2_2_1 (r_n (x := (1 : Int32)) (l := 1) (h := 1) (by decide) (by decide)) (by decide) (by decide) (by decide) (by decide)) h16 c17
              have r19 : R32 (0) (3) o28 := r_nlt2 (r_sub (l := -1) (h := 3) h_p_p_2_2_2_2_1 (r_n (x := (1 : Int32)) (l := 1) (h := 1) (by decide) (by decide)) (by decide) (by decide) (by decide) (by decide)) h16 c17
              refine tp_nl ?_
              refine tp_nl ?_
              refine tp_niff (d_ne2 (r_n (x := (1 : Int32)) (l := 1) (h := 1) (by decide) (by decide)) (r_n (x := (0 : Int32)) (l := 0) (h := 0) (by decide) (by decide)) (by decide)) ?_
              refine tp_nl ?_
              refine tp_iff (d_ne2 (r_n (x := (1 : Int32)) (l := 1) (h := 1) (by decide) (by decide)) (r_n (x := (0 : Int32)) (l := 0) (h := 0) (by decide) (by decide)) (by decide)) ?_
              refine tp_b (t_f_X0_isAsTold (r_w (l' := 0) (h' := 899) r4 (by decide) (by decide)) h_p_p_1 r15 h_p_p_2_2_2_2_1 h_p_p_2_2_2_2_2_1 h_p_p_2_2_2_2_2_2_1 h_p_p_2_2_2_2_2_2_2_1) (fun o25 h20 => ?_)
              refine tp_if (fun c21 => ?_) (fun c21 => ?_)
              · skip
                have r22 : R32 (0) (0) o25 := r_eq1 (l := 0) (h := 0) (by decide) (by decide) h20 (r_n (x := (0 : Int32)) (l := 0) (h := 0) (by decide) (by decide)) c21
                exact t_f_X0_find_J63 ih hm (r_w (l' := 0) (h' := 899) r4 (by decide) (by decide)) h_v7_d_d_2
              · skip
                have r23 : R32 (1) (1) o25 := r_neL (by decide) h20 (r_n (x := (0 : Int32)) (l := 0) (h := 0) (by decide) (by decide)) c21
                refine tp_if (fun c24 => ?_) (fun c24 => ?_)
                · skip
                  have r25 : R32 (288) (288) v7_d_d.2 := r_le2 (r_n (x := (288 : Int32)) (l := 288) (h := 288) (by decide) (by decide)) h_v7_d_d_2 c24
                  exact t_f_X0_find_J63 ih hm (r_w (l' := 0) (h' := 899) r4 (by decide) (by decide)) (r_w (l' := 0) (h' := 288) r25 (by decide) (by decide))
                · skip
                  have r26 : R32 (0) (287) v7_d_d.2 := r_nle2 (by decide) (r_n (x := (288 : Int32)) (l := 288) (h := 288) (by decide) (by decide)) h_v7_d_d_2 c24
                  refine tp_g r26 (by decide) (by decide) ?_
                  exact t_f_X0_find_J63 ih hm (r_w (l' := 0) (h' := 899) r4 (by decide) (by decide)) (r_w (l' := 0) (h' := 288) (r_add (l := 1) (h := 288) r26 (r_n (x := (1 : Int32)) (l := 1) (h := 1) (by decide) (by decide)) (by decide) (by decide) (by decide) (by decide)) (by decide) (by decide))
theorem t_f_X0_find {d_d : TX0_d} {p_p : TX6_p} (h_d_d_2 : R32 (0) (288) d_d.2) (h_p_p_1 : R32 (1) (8) p_p.1) (h_p_p_2_1 : R32 (0) (9) p_p.2.1) (h_p_p_2_2_2_2_1 : R32 (0) (4) p_p.2.2.2.2.1) (h_p_p_2_2_2_2_2_1 : R32 (0) (5) p_p.2.2.2.2.2.1) (h_p_p_2_2_2_2_2_2_1 : R32 (0) (6) p_p.2.2.2.2.2.2.1) (h_p_p_2_2_2_2_2_2_2_1 : R32 (0) (6) p_p.2.2.2.2.2.2.2.1) : TotP (f_X0_find d_d p_p) (fun (r : TX0_d) => R32 (0) (288) r.2) := by
  unfold f_X0_find
  exact t_f_X0_find_L7 h_p_p_1 h_p_p_2_1 h_p_p_2_2_2_2_1 h_p_p_2_2_2_2_2_1 h_p_p_2_2_2_2_2_2_1 h_p_p_2_2_2_2_2_2_2_1 FU _ _ (r_w (l' := 0) (h' := 900) (r_n (x := (0 : Int32)) (l := 0) (h := 0) (by decide) (by decide)) (by decide) (by decide)) (r_w (l' := 0) (h' := 288) (r_n (x := (0 : Int32)) (l := 0) (h := 0) (by decide) (by decide)) (by decide) (by decide)) (fu_up (r_w (l' := 0) (h' := 900) (r_n (x := (0 : Int32)) (l := 0) (h := 0) (by decide) (by decide)) (by decide) (by decide)) (by decide))
theorem t_f_X10_darks {x_x : TX10_x} {p_p : TX6_p} {d_d : TX0_d} (h_p_p_1 : R32 (0) (8) p_p.1) (h_p_p_2_1 : R32 (0) (9) p_p.2.1) (h_p_p_2_2_2_2_1 : R32 (0) (4) p_p.2.2.2.2.1) (h_p_p_2_2_2_2_2_1 : R32 (0) (5) p_p.2.2.2.2.2.1) (h_p_p_2_2_2_2_2_2_1 : R32 (0) (6) p_p.2.2.2.2.2.2.1) (h_p_p_2_2_2_2_2_2_2_1 : R32 (0) (6) p_p.2.2.2.2.2.2.2.1) (h_d_d_2 : R32 (0) (288) d_d.2) : TotP (f_X10_darks x_x p_p d_d) (fun (r : Int32 × TX10_x × TX0_d) => R32 (-1) (288) r.1 ∧ R32 (0) (6) r.2.1.1 ∧ R32 (0) (288) r.2.2.2) := by
  unfold f_X10_darks
  refine tp_e (f_X10_darkTrouble.eq_1 _) ?_
  refine tp_nn ?_
  refine tp_e (f_X10_pierTrouble.eq_1 _) ?_
  refine tp_nif (fun c1 => ?_) (fun c1 => ?_)
  · skip
    have r2 : R32 (0) (0) p_p.1 := r_eq1 (l := 0) (h := 0) (by decide) (by decide) h_p_p_1 (r_n (x := (0 : Int32)) (l := 0) (h := 0) (by decide) (by decide)) c1
    refine tp_nl ?_
    refine tp_niff (d_ne2 (r_n (x := (1 : Int32)) (l := 1) (h := 1) (by decide) (by decide)) (r_n (x := (0 : Int32)) (l := 0) (h := 0) (by decide) (by decide)) (by decide)) ?_
    refine tp_e (f_X10_darkTrouble_J25.eq_1 _) ?_
    refine tp_nl ?_
    refine tp_e (f_X10_refused.eq_1 _ _) ?_
    refine tp_niff (d_ne2 (r_n (x := (1 : Int32)) (l := 1) (h := 1) (by decide) (by decide)) (r_n (x := (0 : Int32)) (l := 0) (h := 0) (by decide) (by decide)) (by decide)) ?_
    refine tp_nl ?_
    refine tp_iff (d_ne2 (r_n (x := (1 : Int32)) (l := 1) (h := 1) (by decide) (by decide)) (r_n (x := (0 : Int32)) (l := 0) (h := 0) (by decide) (by decide)) (by decide)) ?_
    exact tp_s ⟨(r_w (l' := -1) (h' := 288) (r_n (x := (-1 : Int32)) (l := -1) (h := -1) (by decide) (by decide)) (by decide) (by decide)), (r_w (l' := 0) (h' := 6) (r_n (x := (1 : Int32)) (l := 1) (h := 1) (by decide) (by decide)) (by decide) (by decide)), h_d_d_2⟩
  · skip
    have r3 : R32 (1) (8) p_p.1 := r_neL (by decide) h_p_p_1 (r_n (x := (0 : Int32)) (l := 0) (h := 0) (by decide) (by decide)) c1
    refine tp_nl ?_
    refine tp_nift (d_eq (r_n (x := (0 : Int32)) (l := 0) (h := 0) (by decide) (by decide)) (r_n (x := (0 : Int32)) (l := 0) (h := 0) (by decide) (by decide))) ?_
    refine tp_nif (fun c4 => ?_) (fun c4 => ?_)
    · skip
      have r5 : R32 (-1) (-1) p_p.2.2.2.2.2.2.2.2.1 := r_eq1 (l := -1) (h := -1) (by decide) (by decide) (r_top _) (r_n (x := (-1 : Int32)) (l := -1) (h := -1) (by decide) (by decide)) c4
      refine tp_nl ?_
      refine tp_e (f_X10_refused.eq_1 _ _) ?_
      refine tp_niff (d_ne2 (r_n (x := (6 : Int32)) (l := 6) (h := 6) (by decide) (by decide)) (r_n (x := (0 : Int32)) (l := 0) (h := 0) (by decide) (by decide)) (by decide)) ?_
      refine tp_nl ?_
      refine tp_iff (d_ne2 (r_n (x := (1 : Int32)) (l := 1) (h := 1) (by decide) (by decide)) (r_n (x := (0 : Int32)) (l := 0) (h := 0) (by decide) (by decide)) (by decide)) ?_
      exact tp_s ⟨(r_w (l' := -1) (h' := 288) (r_n (x := (-1 : Int32)) (l := -1) (h := -1) (by decide) (by decide)) (by decide) (by decide)), (r_w (l' := 0) (h' := 6) (r_n (x := (6 : Int32)) (l := 6) (h := 6) (by decide) (by decide)) (by decide) (by decide)), h_d_d_2⟩
    · skip
      refine tp_e (f_X10_darkTrouble_J25.eq_1 _) ?_
      refine tp_nl ?_
      refine tp_e (f_X10_refused.eq_1 _ _) ?_
      refine tp_nift (d_eq (r_n (x := (0 : Int32)) (l := 0) (h := 0) (by decide) (by decide)) (r_n (x := (0 : Int32)) (l := 0) (h := 0) (by decide) (by decide))) ?_
      refine tp_nl ?_
      refine tp_ift (d_eq (r_n (x := (0 : Int32)) (l := 0) (h := 0) (by decide) (by decide)) (r_n (x := (0 : Int32)) (l := 0) (h := 0) (by decide) (by decide))) ?_
      refine tp_b (t_f_X0_find h_d_d_2 r3 h_p_p_2_1 h_p_p_2_2_2_2_1 h_p_p_2_2_2_2_2_1 h_p_p_2_2_2_2_2_2_1 h_p_p_2_2_2_2_2_2_2_1) (fun o21 h6 => ?_)
      exact tp_s ⟨(r_w (l' := -1) (h' := 288) h6 (by decide) (by decide)), (r_w (l' := 0) (h' := 6) (r_n (x := (0 : Int32)) (l := 0) (h := 0) (by decide) (by decide)) (by decide) (by decide)), h6⟩
theorem t_f_X10_darkAt {k1 : Int32} {x_x : TX10_x} {p_p : TX6_p} {d_d : TX0_d} (h_p_p_1 : R32 (0) (8) p_p.1) (h_p_p_2_1 : R32 (0) (9) p_p.2.1) (h_p_p_2_2_2_2_1 : R32 (0) (4) p_p.2.2.2.2.1) (h_p_p_2_2_2_2_2_1 : R32 (0) (5) p_p.2.2.2.2.2.1) (h_p_p_2_2_2_2_2_2_1 : R32 (0) (6) p_p.2.2.2.2.2.2.1) (h_p_p_2_2_2_2_2_2_2_1 : R32 (0) (6) p_p.2.2.2.2.2.2.2.1) (h_d_d_2 : R32 (0) (288) d_d.2) : TotP (f_X10_darkAt k1 x_x p_p d_d) (fun (r : Int32 × TX10_x × TX0_d) => R32 (0) (6) r.2.1.1 ∧ R32 (0) (288) r.2.2.2) := by
  unfold f_X10_darkAt
  refine tp_e (f_X10_darkTrouble.eq_1 _) ?_
  refine tp_nn ?_
  refine tp_e (f_X10_pierTrouble.eq_1 _) ?_
  refine tp_nif (fun c1 => ?_) (fun c1 => ?_)
  · skip
    have r2 : R32 (0) (0) p_p.1 := r_eq1 (l := 0) (h := 0) (by decide) (by decide) h_p_p_1 (r_n (x := (0 : Int32)) (l := 0) (h := 0) (by decide) (by decide)) c1
    refine tp_nl ?_
    refine tp_niff (d_ne2 (r_n (x := (1 : Int32)) (l := 1) (h := 1) (by decide) (by decide)) (r_n (x := (0 : Int32)) (l := 0) (h := 0) (by decide) (by decide)) (by decide)) ?_
    refine tp_e (f_X10_darkTrouble_J25.eq_1 _) ?_
    refine tp_nl ?_
    refine tp_e (f_X10_refused.eq_1 _ _) ?_
    refine tp_niff (d_ne2 (r_n (x := (1 : Int32)) (l := 1) (h := 1) (by decide) (by decide)) (r_n (x := (0 : Int32)) (l := 0) (h := 0) (by decide) (by decide)) (by decide)) ?_
    refine tp_nl ?_
    refine tp_iff (d_ne2 (r_n (x := (1 : Int32)) (l := 1) (h := 1) (by decide) (by decide)) (r_n (x := (0 : Int32)) (l := 0) (h := 0) (by decide) (by decide)) (by decide)) ?_
    exact tp_s ⟨(r_w (l' := 0) (h' := 6) (r_n (x := (1 : Int32)) (l := 1) (h := 1) (by decide) (by decide)) (by decide) (by decide)), h_d_d_2⟩
  · skip
    have r3 : R32 (1) (8) p_p.1 := r_neL (by decide) h_p_p_1 (r_n (x := (0 : Int32)) (l := 0) (h := 0) (by decide) (by decide)) c1
    refine tp_nl ?_
    refine tp_nift (d_eq (r_n (x := (0 : Int32)) (l := 0) (h := 0) (by decide) (by decide)) (r_n (x := (0 : Int32)) (l := 0) (h := 0) (by decide) (by decide))) ?_
    refine tp_nif (fun c4 => ?_) (fun c4 => ?_)
    · skip
      have r5 : R32 (-1) (-1) p_p.2.2.2.2.2.2.2.2.1 := r_eq1 (l := -1) (h := -1) (by decide) (by decide) (r_top _) (r_n (x := (-1 : Int32)) (l := -1) (h := -1) (by decide) (by decide)) c4
      refine tp_nl ?_
      refine tp_e (f_X10_refused.eq_1 _ _) ?_
      refine tp_niff (d_ne2 (r_n (x := (6 : Int32)) (l := 6) (h := 6) (by decide) (by decide)) (r_n (x := (0 : Int32)) (l := 0) (h := 0) (by decide) (by decide)) (by decide)) ?_
      refine tp_nl ?_
      refine tp_iff (d_ne2 (r_n (x := (1 : Int32)) (l := 1) (h := 1) (by decide) (by decide)) (r_n (x := (0 : Int32)) (l := 0) (h := 0) (by decide) (by decide)) (by decide)) ?_
      exact tp_s ⟨(r_w (l' := 0) (h' := 6) (r_n (x := (6 : Int32)) (l := 6) (h := 6) (by decide) (by decide)) (by decide) (by decide)), h_d_d_2⟩
    · skip
      refine tp_e (f_X10_darkTrouble_J25.eq_1 _) ?_
      refine tp_nl ?_
      refine tp_e (f_X10_refused.eq_1 _ _) ?_
      refine tp_nift (d_eq (r_n (x := (0 : Int32)) (l := 0) (h := 0) (by decide) (by decide)) (r_n (x := (0 : Int32)) (l := 0) (h := 0) (by decide) (by decide))) ?_
      refine tp_nl ?_
      refine tp_ift (d_eq (r_n (x := (0 : Int32)) (l := 0) (h := 0) (by decide) (by decide)) (r_n (x := (0 : Int32)) (l := 0) (h := 0) (by decide) (by decide))) ?_
      refine tp_b (t_f_X0_find h_d_d_2 r3 h_p_p_2_1 h_p_p_2_2_2_2_1 h_p_p_2_2_2_2_2_1 h_p_p_2_2_2_2_2_2_1 h_p_p_2_2_2_2_2_2_2_1) (fun o21 h6 => ?_)
      refine tp_e (f_X10_within.eq_1 _ _ _) ?_
      refine tp_nif (fun c7 => ?_) (fun c7 => ?_)
      · skip
        have r8 : R32 (-2147483648) (-1) k1 := r_lt1 (by decide) (r_top _) (r_n (x := (0 : Int32)) (l := 0) (h := 0) (by decide) (by decide)) c7
        refine tp_nl ?_
        refine tp_ift (d_eq (r_n (x := (0 : Int32)) (l := 0) (h := 0) (by decide) (by decide)) (r_n (x := (0 : Int32)) (l := 0) (h := 0) (by decide) (by decide))) ?_
        refine tp_u (f_X10_darkAt_J47.eq_1 _ _ _ _) ?_
        refine tp_e (f_X10_refused.eq_1 _ _) ?_
        refine tp_niff (d_ne2 (r_n (x := (1 : Int32)) (l := 1) (h := 1) (by decide) (by decide)) (r_n (x := (0 : Int32)) (l := 0) (h := 0) (by decide) (by decide)) (by decide)) ?_
        refine tp_nl ?_
        refine tp_iff (d_ne2 (r_n (x := (1 : Int32)) (l := 1) (h := 1) (by decide) (by decide)) (r_n (x := (0 : Int32)) (l := 0) (h := 0) (by decide) (by decide)) (by decide)) ?_
        exact tp_s ⟨(r_w (l' := 0) (h' := 6) (r_n (x := (1 : Int32)) (l := 1) (h := 1) (by decide) (by decide)) (by decide) (by decide)), h6⟩
      · skip
        have r9 : R32 (0) (2147483647) k1 := r_nlt1 (r_top _) (r_n (x := (0 : Int32)) (l := 0) (h := 0) (by decide) (by decide)) c7
        refine tp_nif (fun c10 => ?_) (fun c10 => ?_)
        · skip
          refine tp_nl ?_
          refine tp_ift (d_eq (r_n (x := (0 : Int32)) (l := 0) (h := 0) (by decide) (by decide)) (r_n (x := (0 : Int32)) (l := 0) (h := 0) (by decide) (by decide))) ?_
          refine tp_u (f_X10_darkAt_J47.eq_1 _ _ _ _) ?_
          refine tp_e (f_X10_refused.eq_1 _ _) ?_
          refine tp_niff (d_ne2 (r_n (x := (1 : Int32)) (l := 1) (h := 1) (by decide) (by decide)) (r_n (x := (0 : Int32)) (l := 0) (h := 0) (by decide) (by decide)) (by decide)) ?_
          refine tp_nl ?_
          refine tp_iff (d_ne2 (r_n (x := (1 : Int32)) (l := 1) (h := 1) (by decide) (by decide)) (r_n (x := (0 : Int32)) (l := 0) (h := 0) (by decide) (by decide)) (by decide)) ?_
          exact tp_s ⟨(r_w (l' := 0) (h' := 6) (r_n (x := (1 : Int32)) (l := 1) (h := 1) (by decide) (by decide)) (by decide) (by decide)), h6⟩
        · skip
          have r11 : R32 (0) (287) (o21.2 - (1 : Int32)) := r_nlt1 (r_sub (l := -1) (h := 287) h6 (r_n (x := (1 : Int32)) (l := 1) (h := 1) (by decide) (by decide)) (by decide) (by decide) (by decide) (by decide)) r9 c10
          have r12 : R32 (0) (287) k1 := r_nlt2 (r_sub (l := -1) (h := 287) h6 (r_n (x := (1 : Int32)) (l := 1) (h := 1) (by decide) (by decide)) (by decide) (by decide) (by decide) (by decide)) r9 c10
          refine tp_nl ?_
          refine tp_iff (d_ne2 (r_n (x := (1 : Int32)) (l := 1) (h := 1) (by decide) (by decide)) (r_n (x := (0 : Int32)) (l := 0) (h := 0) (by decide) (by decide)) (by decide)) ?_
          refine tp_u (f_X10_darkAt_J47.eq_1 _ _ _ _) ?_
          refine tp_e (f_X10_refused.eq_1 _ _) ?_
          refine tp_nift (d_eq (r_n (x := (0 : Int32)) (l := 0) (h := 0) (by decide) (by decide)) (r_n (x := (0 : Int32)) (l := 0) (h := 0) (by decide) (by decide))) ?_
          refine tp_nl ?_
          refine tp_ift (d_eq (r_n (x := (0 : Int32)) (l := 0) (h := 0) (by decide) (by decide)) (r_n (x := (0 : Int32)) (l := 0) (h := 0) (by decide) (by decide))) ?_
          refine tp_g r12 (by decide) (by decide) ?_
          exact tp_s ⟨(r_w (l' := 0) (h' := 6) (r_n (x := (0 : Int32)) (l := 0) (h := 0) (by decide) (by decide)) (by decide) (by decide)), h6⟩
theorem t_f_X10_darkSpots_L28 {o21 : TX0_d} {o5 : (Int32 × TX10_x)} (h_o21_2 : R32 (0) (288) o21.2) (h_o5_1 : R32 (0) (0) o5.1) (h_o5_2_1 : R32 (0) (0) o5.2.1) : ∀ (n : Nat) (v28_l2 : Int32) (v28_l1 : Int32), R32 (0) (288) v28_l2 → (288 : Int) - v28_l2.toInt < (n : Int) → TotP (f_X10_darkSpots_L28 o21 o5 n v28_l2 v28_l1) (fun (r : Int32 × TX10_x × TX0_d) => R32 (0) (6) r.2.1.1 ∧ R32 (0) (288) r.2.2.2) := by
  intro n
  induction n with
  | zero =>
    intro v28_l2 v28_l1 h_v28_l2 hm
    exact (ms_0u h_v28_l2 hm).elim
  | succ n ih =>
    intro v28_l2 v28_l1 h_v28_l2 hm
    rw [f_X10_darkSpots_L28]
    refine tp_if (fun c1 => ?_) (fun c1 => ?_)
    · skip
      exact tp_s ⟨(r_w (l' := 0) (h' := 6) h_o5_2_1 (by decide) (by decide)), h_o21_2⟩
    · skip
      have r2 : R32 (1) (288) o21.2 := r_nle1 (by decide) h_o21_2 h_v28_l2 c1
      have r3 : R32 (0) (287) v28_l2 := r_nle2 (by decide) h_o21_2 h_v28_l2 c1
      refine tp_g r3 (by decide) (by decide) ?_
      refine tp_e (f_X10_spotOf.eq_1 _) ?_
      refine tp_n0 (fun o50 => ?_)
      exact ih _ _ (r_w (l' := 0) (h' := 288) (r_add (l := 1) (h := 288) r3 (r_n (x := (1 : Int32)) (l := 1) (h := 1) (by decide) (by decide)) (by decide) (by decide) (by decide) (by decide)) (by decide) (by decide)) (ms_up (y := (1 : Int32)) r3 (by decide) (by decide) (by decide) hm)
theorem t_f_X10_darkSpots {x_x : TX10_x} {p_p : TX6_p} {d_d : TX0_d} (h_p_p_1 : R32 (0) (8) p_p.1) (h_p_p_2_1 : R32 (0) (9) p_p.2.1) (h_p_p_2_2_2_2_1 : R32 (0) (4) p_p.2.2.2.2.1) (h_p_p_2_2_2_2_2_1 : R32 (0) (5) p_p.2.2.2.2.2.1) (h_p_p_2_2_2_2_2_2_1 : R32 (0) (6) p_p.2.2.2.2.2.2.1) (h_p_p_2_2_2_2_2_2_2_1 : R32 (0) (6) p_p.2.2.2.2.2.2.2.1) (h_d_d_2 : R32 (0) (288) d_d.2) : TotP (f_X10_darkSpots x_x p_p d_d) (fun (r : Int32 × TX10_x × TX0_d) => R32 (0) (6) r.2.1.1 ∧ R32 (0) (288) r.2.2.2) := by
  unfold f_X10_darkSpots
  refine tp_e (f_X10_darkTrouble.eq_1 _) ?_
  refine tp_nn ?_
  refine tp_e (f_X10_pierTrouble.eq_1 _) ?_
  refine tp_nif (fun c1 => ?_) (fun c1 => ?_)
  · skip
    have r2 : R32 (0) (0) p_p.1 := r_eq1 (l := 0) (h := 0) (by decide) (by decide) h_p_p_1 (r_n (x := (0 : Int32)) (l := 0) (h := 0) (by decide) (by decide)) c1
    refine tp_nl ?_
    refine tp_niff (d_ne2 (r_n (x := (1 : Int32)) (l := 1) (h := 1) (by decide) (by decide)) (r_n (x := (0 : Int32)) (l := 0) (h := 0) (by decide) (by decide)) (by decide)) ?_
    refine tp_e (f_X10_darkTrouble_J25.eq_1 _) ?_
    refine tp_nl ?_
    refine tp_e (f_X10_refused.eq_1 _ _) ?_
    refine tp_niff (d_ne2 (r_n (x := (1 : Int32)) (l := 1) (h := 1) (by decide) (by decide)) (r_n (x := (0 : Int32)) (l := 0) (h := 0) (by decide) (by decide)) (by decide)) ?_
    refine tp_nl ?_
    refine tp_iff (d_ne2 (r_n (x := (1 : Int32)) (l := 1) (h := 1) (by decide) (by decide)) (r_n (x := (0 : Int32)) (l := 0) (h := 0) (by decide) (by decide)) (by decide)) ?_
    exact tp_s ⟨(r_w (l' := 0) (h' := 6) (r_n (x := (1 : Int32)) (l := 1) (h := 1) (by decide) (by decide)) (by decide) (by decide)), h_d_d_2⟩
  · skip
    have r3 : R32 (1) (8) p_p.1 := r_neL (by decide) h_p_p_1 (r_n (x := (0 : Int32)) (l := 0) (h := 0) (by decide) (by decide)) c1
    refine tp_nl ?_
    refine tp_nift (d_eq (r_n (x := (0 : Int32)) (l := 0) (h := 0) (by decide) (by decide)) (r_n (x := (0 : Int32)) (l := 0) (h := 0) (by decide) (by decide))) ?_
    refine tp_nif (fun c4 => ?_) (fun c4 => ?_)
    · skip
      have r5 : R32 (-1) (-1) p_p.2.2.2.2.2.2.2.2.1 := r_eq1 (l := -1) (h := -1) (by decide) (by decide) (r_top _) (r_n (x := (-1 : Int32)) (l := -1) (h := -1) (by decide) (by decide)) c4
      refine tp_nl ?_
      refine tp_e (f_X10_refused.eq_1 _ _) ?_
      refine tp_niff (d_ne2 (r_n (x := (6 : Int32)) (l := 6) (h := 6) (by decide) (by decide)) (r_n (x := (0 : Int32)) (l := 0) (h := 0) (by decide) (by decide)) (by decide)) ?_
      refine tp_nl ?_
      refine tp_iff (d_ne2 (r_n (x := (1 : Int32)) (l := 1) (h := 1) (by decide) (by decide)) (r_n (x := (0 : Int32)) (l := 0) (h := 0) (by decide) (by decide)) (by decide)) ?_
      exact tp_s ⟨(r_w (l' := 0) (h' := 6) (r_n (x := (6 : Int32)) (l := 6) (h := 6) (by decide) (by decide)) (by decide) (by decide)), h_d_d_2⟩
    · skip
      refine tp_e (f_X10_darkTrouble_J25.eq_1 _) ?_
      refine tp_nl ?_
      refine tp_e (f_X10_refused.eq_1 _ _) ?_
      refine tp_nift (d_eq (r_n (x := (0 : Int32)) (l := 0) (h := 0) (by decide) (by decide)) (r_n (x := (0 : Int32)) (l := 0) (h := 0) (by decide) (by decide))) ?_
      refine tp_nl ?_
      refine tp_ift (d_eq (r_n (x := (0 : Int32)) (l := 0) (h := 0) (by decide) (by decide)) (r_n (x := (0 : Int32)) (l := 0) (h := 0) (by decide) (by decide))) ?_
      refine tp_b (t_f_X0_find h_d_d_2 r3 h_p_p_2_1 h_p_p_2_2_2_2_1 h_p_p_2_2_2_2_2_1 h_p_p_2_2_2_2_2_2_1 h_p_p_2_2_2_2_2_2_2_1) (fun o21 h6 => ?_)
      exact t_f_X10_darkSpots_L28 h6 (r_n (x := (0 : Int32)) (l := 0) (h := 0) (by decide) (by decide)) (r_n (x := (0 : Int32)) (l := 0) (h := 0) (by decide) (by decide)) FU _ _ (r_w (l' := 0) (h' := 288) (r_n (x := (0 : Int32)) (l := 0) (h := 0) (by decide) (by decide)) (by decide) (by decide)) (fu_up (r_w (l' := 0) (h' := 288) (r_n (x := (0 : Int32)) (l := 0) (h := 0) (by decide) (by decide)) (by decide) (by decide)) (by decide))
theorem t_f_X0_leftAtMost_J35 {k5_ : Int32 → Int32 → Option Int32} {v5_l4 : Int32} {v35_l3 : Int32} {N5 : Nat} (hk5 : ∀ (v5_l4 : Int32) (v5_l3 : Int32), R32 (0) (288) v5_l4 → (288 : Int) - v5_l4.toInt < (N5 : Nat) → TotP (k5_ v5_l4 v5_l3) (fun (r : Int32) => True)) (hm5 : (288 : Int) - v5_l4.toInt < ((N5 + 1 : Nat) : Int)) (h_v5_l4 : R32 (0) (287) v5_l4) : TotP (f_X0_leftAtMost_J35 k5_ v5_l4 v35_l3) (fun (r : Int32) => True) := by
  unfold f_X0_leftAtMost_J35
  exact hk5 _ _ (r_w (l' := 0) (h' := 288) (r_add (l := 1) (h := 288) h_v5_l4 (r_n (x := (1 : Int32)) (l := 1) (h := 1) (by decide) (by decide)) (by decide) (by decide) (by decide) (by decide)) (by decide) (by decide)) (ms_up (y := (1 : Int32)) h_v5_l4 (by decide) (by decide) (by decide) hm5)
theorem t_f_X0_leftAtMost_L5 {k2 : Int32} {d_d : TX0_d} {p_p : TX6_p} (h_k2 : R32 (-1) (899) k2) (h_d_d_2 : R32 (0) (288) d_d.2) (h_p_p_1 : R32 (1) (8) p_p.1) (h_p_p_2_1 : R32 (0) (9) p_p.2.1) (h_p_p_2_2_2_2_1 : R32 (0) (4) p_p.2.2.2.2.1) (h_p_p_2_2_2_2_2_1 : R32 (0) (5) p_p.2.2.2.2.2.1) (h_p_p_2_2_2_2_2_2_1 : R32 (0) (6) p_p.2.2.2.2.2.2.1) (h_p_p_2_2_2_2_2_2_2_1 : R32 (0) (6) p_p.2.2.2.2.2.2.2.1) : ∀ (n : Nat) (v5_l4 : Int32) (v5_l3 : Int32), R32 (0) (288) v5_l4 → (288 : Int) - v5_l4.toInt < (n : Int) → TotP (f_X0_leftAtMost_L5 k2 d_d p_p n v5_l4 v5_l3) (fun (r : Int32) => True) := by
  intro n
  induction n with
  | zero =>
    intro v5_l4 v5_l3 h_v5_l4 hm
    exact (ms_0u h_v5_l4 hm).elim
  | succ n ih =>
    intro v5_l4 v5_l3 h_v5_l4 hm
    rw [f_X0_leftAtMost_L5]
    refine tp_if (fun c1 => ?_) (fun c1 => ?_)
    · skip
      refine tp_n0 (fun z48 => ?_)
      exact tp_s trivial
    · skip
      have r2 : R32 (1) (288) d_d.2 := r_nle1 (by decide) h_d_d_2 h_v5_l4 c1
      have r3 : R32 (0) (287) v5_l4 := r_nle2 (by decide) h_d_d_2 h_v5_l4 c1
      refine tp_g r3 (by decide) (by decide) ?_
      refine tp_e (f_X0_wouldBite.eq_1 _ _ _) ?_
      refine tp_nn ?_
      refine tp_e (f_X10_baitOf.eq_1 _) ?_
      refine tp_n0 (fun o2 => ?_)
      refine tp_nn ?_
      refine tp_e (f_X10_baitOf.eq_1 _) ?_
      refine tp_n0 (fun o6 => ?_)
      refine tp_nif (fun c4 => ?_) (fun c4 => ?_)
      · skip
        refine tp_e (f_X0_wouldBite_J18.eq_1 _ _ _ _) ?_
        refine tp_nn ?_
        refine tp_e (f_X10_spotOf.eq_1 _) ?_
        refine tp_n0 (fun o22 => ?_)
        refine tp_nn ?_
        refine tp_e (f_X10_spotOf.eq_1 _) ?_
        refine tp_n0 (fun o26 => ?_)
        refine tp_nn ?_
        refine tp_n0 (fun z30 => ?_)
        refine tp_nn ?_
        refine tp_e (f_X10_fathomsOf.eq_1 _) ?_
        refine tp_nn ?_
        refine tp_n0 (fun z6 => ?_)
        refine tp_nl ?_
        refine tp_nn ?_
        refine tp_e (f_X10_fathomsOf.eq_1 _) ?_
        refine tp_nn ?_
        refine tp_n0 (fun z6_5 => ?_)
        refine tp_nl ?_
        refine tp_nn ?_
        refine tp_n0 (fun z46 => ?_)
        refine tp_nn ?_
        refine tp_n0 (fun z50 => ?_)
        refine tp_nif (fun c6 => ?_) (fun c6 => ?_)
        · skip
          have r7 : R32 (-2147483648) (49) z50 := r_lt1 (by decide) (r_top _) (r_n (x := (50 : Int32)) (l := 50) (h := 50) (by decide) (by decide)) c6
          refine tp_nl ?_
          refine tp_ift (d_eq (r_n (x := (0 : Int32)) (l := 0) (h := 0) (by decide) (by decide)) (r_n (x := (0 : Int32)) (l := 0) (h := 0) (by decide) (by decide))) ?_
          exact t_f_X0_leftAtMost_J35 ih hm r3
        · skip
          have r8 : R32 (50) (2147483647) z50 := r_nlt1 (r_top _) (r_n (x := (50 : Int32)) (l := 50) (h := 50) (by decide) (by decide)) c6
          refine tp_nl ?_
          refine tp_iff (d_ne2 (r_n (x := (1 : Int32)) (l := 1) (h := 1) (by decide) (by decide)) (r_n (x := (0 : Int32)) (l := 0) (h := 0) (by decide) (by decide)) (by decide)) ?_
          exact t_f_X0_leftAtMost_J35 ih hm r3
      · skip
        refine tp_e (f_X0_wouldBite_J18.eq_1 _ _ _ _) ?_
        refine tp_nn ?_
        refine tp_e (f_X10_spotOf.eq_1 _) ?_
        refine tp_n0 (fun o22_9 => ?_)
        refine tp_nn ?_
        refine tp_e (f_X10_spotOf.eq_1 _) ?_
        refine tp_n0 (fun o26_10 => ?_)
        refine tp_nn ?_
        refine tp_n0 (fun z30_11 => ?_)
        refine tp_nn ?_
        refine tp_e (f_X10_fathomsOf.eq_1 _) ?_
        refine tp_nn ?_
        refine tp_n0 (fun z6_12 => ?_)
        refine tp_nl ?_
        refine tp_nn ?_
        refine tp_e (f_X10_fathomsOf.eq_1 _) ?_
        refine tp_nn ?_
        refine tp_n0 (fun z6_13 => ?_)
        refine tp_nl ?_
        refine tp_nn ?_
        refine tp_n0 (fun z46_14 => ?_)
        refine tp_nn ?_
        refine tp_n0 (fun z50_15 => ?_)
        refine tp_nif (fun c16 => ?_) (fun c16 => ?_)
        · skip
          have r17 : R32 (-2147483648) (49) z50_15 := r_lt1 (by decide) (r_top _) (r_n (x := (50 : Int32)) (l := 50) (h := 50) (by decide) (by decide)) c16
          refine tp_nl ?_
          refine tp_ift (d_eq (r_n (x := (0 : Int32)) (l := 0) (h := 0) (by decide) (by decide)) (r_n (x := (0 : Int32)) (l := 0) (h := 0) (by decide) (by decide))) ?_
          exact t_f_X0_leftAtMost_J35 ih hm r3
        · skip
          have r18 : R32 (50) (2147483647) z50_15 := r_nlt1 (r_top _) (r_n (x := (50 : Int32)) (l := 50) (h := 50) (by decide) (by decide)) c16
          refine tp_nl ?_
          refine tp_iff (d_ne2 (r_n (x := (1 : Int32)) (l := 1) (h := 1) (by decide) (by decide)) (r_n (x := (0 : Int32)) (l := 0) (h := 0) (by decide) (by decide)) (by decide)) ?_
          exact t_f_X0_leftAtMost_J35 ih hm r3
theorem t_f_X0_leftAtMost {k2 : Int32} {d_d : TX0_d} {p_p : TX6_p} (h_k2 : R32 (-1) (899) k2) (h_d_d_2 : R32 (0) (288) d_d.2) (h_p_p_1 : R32 (1) (8) p_p.1) (h_p_p_2_1 : R32 (0) (9) p_p.2.1) (h_p_p_2_2_2_2_1 : R32 (0) (4) p_p.2.2.2.2.1) (h_p_p_2_2_2_2_2_1 : R32 (0) (5) p_p.2.2.2.2.2.1) (h_p_p_2_2_2_2_2_2_1 : R32 (0) (6) p_p.2.2.2.2.2.2.1) (h_p_p_2_2_2_2_2_2_2_1 : R32 (0) (6) p_p.2.2.2.2.2.2.2.1) : TotP (f_X0_leftAtMost k2 d_d p_p) (fun (r : Int32) => True) := by
  unfold f_X0_leftAtMost
  exact t_f_X0_leftAtMost_L5 h_k2 h_d_d_2 h_p_p_1 h_p_p_2_1 h_p_p_2_2_2_2_1 h_p_p_2_2_2_2_2_1 h_p_p_2_2_2_2_2_2_1 h_p_p_2_2_2_2_2_2_2_1 FU _ _ (r_w (l' := 0) (h' := 288) (r_n (x := (0 : Int32)) (l := 0) (h := 0) (by decide) (by decide)) (by decide) (by decide)) (fu_up (r_w (l' := 0) (h' := 288) (r_n (x := (0 : Int32)) (l := 0) (h := 0) (by decide) (by decide)) (by decide) (by decide)) (by decide))
theorem t_f_X0_tellingQuestion_J63 {k11_ : Int32 → Int32 → Int32 → Option Int32} {v11_l4 : Int32} {v63_l3 : Int32} {v63_l2 : Int32} {N11 : Nat} (hk11 : ∀ (v11_l4 : Int32) (v11_l3 : Int32) (v11_l2 : Int32), R32 (0) (900) v11_l4 → R32 (-2) (899) v11_l2 → (900 : Int) - v11_l4.toInt < (N11 : Nat) → TotP (k11_ v11_l4 v11_l3 v11_l2) (fun (r : Int32) => R32 (-2) (899) r)) (hm11 : (900 : Int) - v11_l4.toInt < ((N11 + 1 : Nat) : Int)) (h_v11_l4 : R32 (0) (899) v11_l4) (h_v63_l2 : R32 (-2) (899) v63_l2) : TotP (f_X0_tellingQuestion_J63 k11_ v11_l4 v63_l3 v63_l2) (fun (r : Int32) => R32 (-2) (899) r) := by
  unfold f_X0_tellingQuestion_J63
  exact hk11 _ _ _ (r_w (l' := 0) (h' := 900) (r_add (l := 1) (h := 900) h_v11_l4 (r_n (x := (1 : Int32)) (l := 1) (h := 1) (by decide) (by decide)) (by decide) (by decide) (by decide) (by decide)) (by decide) (by decide)) h_v63_l2 (ms_up (y := (1 : Int32)) h_v11_l4 (by decide) (by decide) (by decide) hm11)
theorem t_f_X0_tellingQuestion_J57 {k11_ : Int32 → Int32 → Int32 → Option Int32} {o40 : Int32} {v11_l4 : Int32} {N11 : Nat} (hk11 : ∀ (v11_l4 : Int32) (v11_l3 : Int32) (v11_l2 : Int32), R32 (0) (900) v11_l4 → R32 (-2) (899) v11_l2 → (900 : Int) - v11_l4.toInt < (N11 : Nat) → TotP (k11_ v11_l4 v11_l3 v11_l2) (fun (r : Int32) => R32 (-2) (899) r)) (hm11 : (900 : Int) - v11_l4.toInt < ((N11 + 1 : Nat) : Int)) (h_v11_l4 : R32 (0) (899) v11_l4) : TotP (f_X0_tellingQuestion_J57 k11_ o40 v11_l4) (fun (r : Int32) => R32 (-2) (899) r) := by
  unfold f_X0_tellingQuestion_J57
  exact t_f_X0_tellingQuestion_J63 hk11 hm11 h_v11_l4 (r_w (l' := -2) (h' := 899) h_v11_l4 (by decide) (by decide))
theorem t_f_X0_tellingQuestion_J69 {v11_l2 : Int32} (h_v11_l2 : R32 (-2) (899) v11_l2) : TotP (f_X0_tellingQuestion_J69 v11_l2) (fun (r : Int32) => R32 (-2) (899) r) := by
  unfold f_X0_tellingQuestion_J69
  exact tp_s h_v11_l2
