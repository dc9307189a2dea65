/-! the functions answer, part 1 -/
theorem t_f_X12_goesBy {m_v : TX12_v} {m_c : TX12_c} {q_q : TX11_q} (h_q_q_1 : R32 (2) (8) q_q.1) (h_q_q_2_1 : R32 (1) (9) q_q.2.1) (h_q_q_2_2_2_2_1 : R32 (1) (4) q_q.2.2.2.2.1) (h_q_q_2_2_2_2_2_1 : R32 (0) (5) q_q.2.2.2.2.2.1) (h_q_q_2_2_2_2_2_2_1 : R32 (0) (6) q_q.2.2.2.2.2.2.1) (h_q_q_2_2_2_2_2_2_2_1 : R32 (0) (6) q_q.2.2.2.2.2.2.2.1) : TotP (f_X12_goesBy m_v m_c q_q) (fun (r : Int32 × TX12_v × TX12_c) => R32 (0) (63) r.1) := by
  unfold f_X12_goesBy
  exact t_f_X12_goesBy_L4 h_q_q_1 h_q_q_2_1 h_q_q_2_2_2_2_1 h_q_q_2_2_2_2_2_1 h_q_q_2_2_2_2_2_2_1 h_q_q_2_2_2_2_2_2_2_1 FU _ _ _ _ (r_w (l' := 0) (h' := 5) (r_n (x := (0 : Int32)) (l := 0) (h := 0) (by decide) (by decide)) (by decide) (by decide)) (r_w (l' := 0) (h' := 63) (r_n (x := (0 : Int32)) (l := 0) (h := 0) (by decide) (by decide)) (by decide) (by decide)) (fu_up (r_w (l' := 0) (h' := 5) (r_n (x := (0 : Int32)) (l := 0) (h := 0) (by decide) (by decide)) (by decide) (by decide)) (by decide))
theorem t_f_X12_day {m_t : TX12_t} {m_v : TX12_v} {m_h : TX12_h} {m_c : TX12_c} {q_q : TX11_q} (h_m_h_2_2_1 : R32 (0) (16) m_h.2.2.1) (h_m_h_2_2_2 : R32 (0) (3) m_h.2.2.2) (h_q_q_1 : R32 (2) (8) q_q.1) (h_q_q_2_1 : R32 (1) (9) q_q.2.1) (h_q_q_2_2_2_2_1 : R32 (1) (4) q_q.2.2.2.2.1) (h_q_q_2_2_2_2_2_1 : R32 (0) (5) q_q.2.2.2.2.2.1) (h_q_q_2_2_2_2_2_2_1 : R32 (0) (6) q_q.2.2.2.2.2.2.1) (h_q_q_2_2_2_2_2_2_2_1 : R32 (0) (6) q_q.2.2.2.2.2.2.2.1) : TotP (f_X12_day m_t m_v m_h m_c q_q) (fun (r : Int32 × TX12_t × TX12_v × TX12_h × TX12_c) => R32 (-1) (63) r.1 ∧ R32 (0) (0) r.2.1.1 ∧ R32 (0) (3) r.2.1.2.1 ∧ R32 (-1) (-1) r.2.1.2.2 ∧ R32 (0) (16) r.2.2.2.1.2.2.1 ∧ R32 (0) (3) r.2.2.2.1.2.2.2) := by
  unfold f_X12_day
  refine tp_if (fun c1 => ?_) (fun c1 => ?_)
  · skip
    have r2 : R32 (999) (999) (m_v ((23 : Int32)).toNatClampNeg) := r_eq1 (l := 999) (h := 999) (by decide) (by decide) (r_top _) (r_n (x := (999 : Int32)) (l := 999) (h := 999) (by decide) (by decide)) c1
    refine tp_e (f_X12_refused.eq_1 _ _) ?_
    refine tp_nl ?_
    exact tp_s ⟨(r_w (l' := -1) (h' := 63) (r_n (x := (-1 : Int32)) (l := -1) (h := -1) (by decide) (by decide)) (by decide) (by decide)), (r_n (x := (0 : Int32)) (l := 0) (h := 0) (by decide) (by decide)), (r_w (l' := 0) (h' := 3) (r_n (x := (3 : Int32)) (l := 3) (h := 3) (by decide) (by decide)) (by decide) (by decide)), (r_n (x := (-1 : Int32)) (l := -1) (h := -1) (by decide) (by decide)), h_m_h_2_2_1, h_m_h_2_2_2⟩
  · skip
    refine tp_b (t_f_X12_remembers h_m_h_2_2_1 h_m_h_2_2_2) (fun o38 h3 => ?_)
    obtain ⟨r4, r5⟩ := h3
    refine tp_b (t_f_X12_goesBy h_q_q_1 h_q_q_2_1 h_q_q_2_2_2_2_1 h_q_q_2_2_2_2_2_1 h_q_q_2_2_2_2_2_2_1 h_q_q_2_2_2_2_2_2_2_1) (fun o47 h6 => ?_)
    refine tp_e (f_X12_good.eq_1 _ _) ?_
    refine tp_nl ?_
    exact tp_s ⟨(r_w (l' := -1) (h' := 63) h6 (by decide) (by decide)), (r_n (x := (0 : Int32)) (l := 0) (h := 0) (by decide) (by decide)), (r_w (l' := 0) (h' := 3) (r_n (x := (0 : Int32)) (l := 0) (h := 0) (by decide) (by decide)) (by decide) (by decide)), (r_n (x := (-1 : Int32)) (l := -1) (h := -1) (by decide) (by decide)), (r_w (l' := 0) (h' := 16) r4 (by decide) (by decide)), r5⟩
theorem t_f_X12_undo_L38 {m_t : TX12_t} {m_h : TX12_h} (h_m_h_2_2_1 : R32 (1) (16) m_h.2.2.1) (h_m_h_2_2_2 : R32 (0) (3) m_h.2.2.2) : ∀ (n : Nat) (v38_l1 : Int32) (v38_m_v : TX12_v), R32 (0) (26) v38_l1 → (26 : Int) - v38_l1.toInt < (n : Int) → TotP (f_X12_undo_L38 m_t m_h n v38_l1 v38_m_v) (fun (r : Int32 × TX12_t × TX12_v × TX12_h) => R32 (0) (1) r.1 ∧ R32 (0) (0) r.2.1.1 ∧ R32 (0) (6) r.2.1.2.1 ∧ R32 (-1) (-1) r.2.1.2.2 ∧ R32 (0) (15) r.2.2.2.2.2.1 ∧ R32 (0) (3) r.2.2.2.2.2.2) := by
  intro n
  induction n with
  | zero =>
    intro v38_l1 v38_m_v h_v38_l1 hm
    exact (ms_0u h_v38_l1 hm).elim
  | succ n ih =>
    intro v38_l1 v38_m_v h_v38_l1 hm
    rw [f_X12_undo_L38]
    refine tp_if (fun c1 => ?_) (fun c1 => ?_)
    · skip
      have r2 : R32 (26) (26) v38_l1 := r_le2 (r_n (x := (26 : Int32)) (l := 26) (h := 26) (by decide) (by decide)) h_v38_l1 c1
      refine tp_e (f_X12_granted.eq_1 _) ?_
      refine tp_nn ?_
      refine tp_e (f_X12_good.eq_1 _ _) ?_
      refine tp_nl ?_
      refine tp_nl ?_
      exact tp_s ⟨(r_w (l' := 0) (h' := 1) (r_n (x := (1 : Int32)) (l := 1) (h := 1) (by decide) (by decide)) (by decide) (by decide)), (r_n (x := (0 : Int32)) (l := 0) (h := 0) (by decide) (by decide)), (r_w (l' := 0) (h' := 6) (r_n (x := (0 : Int32)) (l := 0) (h := 0) (by decide) (by decide)) (by decide) (by decide)), (r_n (x := (-1 : Int32)) (l := -1) (h := -1) (by decide) (by decide)), (r_sub (l := 0) (h := 15) h_m_h_2_2_1 (r_n (x := (1 : Int32)) (l := 1) (h := 1) (by decide) (by decide)) (by decide) (by decide) (by decide) (by decide)), h_m_h_2_2_2⟩
    · skip
      have r3 : R32 (0) (25) v38_l1 := r_nle2 (by decide) (r_n (x := (26 : Int32)) (l := 26) (h := 26) (by decide) (by decide)) h_v38_l1 c1
      refine tp_g (r_add (l := 0) (h := 415) (r_mul (l := 0) (h := 390) (r_n (x := (26 : Int32)) (l := 26) (h := 26) (by decide) (by decide)) (r_sub (l := 0) (h := 15) h_m_h_2_2_1 (r_n (x := (1 : Int32)) (l := 1) (h := 1) (by decide) (by decide)) (by decide) (by decide) (by decide) (by decide)) (by decide) (by decide) (by decide) (by decide) (by decide)) r3 (by decide) (by decide) (by decide) (by decide)) (by decide) (by decide) ?_
      refine tp_n0 (fun z62 => ?_)
      refine tp_g r3 (by decide) (by decide) ?_
      exact ih _ _ (r_w (l' := 0) (h' := 26) (r_add (l := 1) (h := 26) r3 (r_n (x := (1 : Int32)) (l := 1) (h := 1) (by decide) (by decide)) (by decide) (by decide) (by decide) (by decide)) (by decide) (by decide)) (ms_up (y := (1 : Int32)) r3 (by decide) (by decide) (by decide) hm)
theorem t_f_X12_undo {m_t : TX12_t} {m_v : TX12_v} {m_h : TX12_h} (h_m_h_2_2_1 : R32 (0) (16) m_h.2.2.1) (h_m_h_2_2_2 : R32 (0) (3) m_h.2.2.2) : TotP (f_X12_undo m_t m_v m_h) (fun (r : Int32 × TX12_t × TX12_v × TX12_h) => R32 (0) (1) r.1 ∧ R32 (0) (0) r.2.1.1 ∧ R32 (0) (6) r.2.1.2.1 ∧ R32 (-1) (-1) r.2.1.2.2 ∧ R32 (0) (15) r.2.2.2.2.2.1 ∧ R32 (0) (3) r.2.2.2.2.2.2) := by
  unfold f_X12_undo
  refine tp_if (fun c1 => ?_) (fun c1 => ?_)
  · skip
    have r2 : R32 (0) (0) m_h.2.2.1 := r_eq1 (l := 0) (h := 0) (by decide) (by decide) h_m_h_2_2_1 (r_n (x := (0 : Int32)) (l := 0) (h := 0) (by decide) (by decide)) c1
    refine tp_e (f_X12_denied.eq_1 _ _) ?_
    refine tp_nn ?_
    refine tp_e (f_X12_refused.eq_1 _ _) ?_
    refine tp_nl ?_
    refine tp_nl ?_
    exact tp_s ⟨(r_w (l' := 0) (h' := 1) (r_n (x := (0 : Int32)) (l := 0) (h := 0) (by decide) (by decide)) (by decide) (by decide)), (r_n (x := (0 : Int32)) (l := 0) (h := 0) (by decide) (by decide)), (r_w (l' := 0) (h' := 6) (r_n (x := (6 : Int32)) (l := 6) (h := 6) (by decide) (by decide)) (by decide) (by decide)), (r_n (x := (-1 : Int32)) (l := -1) (h := -1) (by decide) (by decide)), (r_w (l' := 0) (h' := 15) r2 (by decide) (by decide)), h_m_h_2_2_2⟩
  · skip
    have r3 : R32 (1) (16) m_h.2.2.1 := r_neL (by decide) h_m_h_2_2_1 (r_n (x := (0 : Int32)) (l := 0) (h := 0) (by decide) (by decide)) c1
    exact t_f_X12_undo_L38 r3 h_m_h_2_2_2 FU _ _ (r_w (l' := 0) (h' := 26) (r_n (x := (0 : Int32)) (l := 0) (h := 0) (by decide) (by decide)) (by decide) (by decide)) (fu_up (r_w (l' := 0) (h' := 26) (r_n (x := (0 : Int32)) (l := 0) (h := 0) (by decide) (by decide)) (by decide) (by decide)) (by decide))
theorem t_f_X12_mark_L34 {m_t : TX12_t} {m_v : TX12_v} : ∀ (n : Nat) (v34_l1 : Int32) (v34_m_h : TX12_h), R32 (0) (26) v34_l1 → R32 (0) (16) v34_m_h.2.2.1 → R32 (0) (2) v34_m_h.2.2.2 → (26 : Int) - v34_l1.toInt < (n : Int) → TotP (f_X12_mark_L34 m_t m_v n v34_l1 v34_m_h) (fun (r : Int32 × TX12_t × TX12_h) => R32 (-1) (2) r.1 ∧ R32 (0) (0) r.2.1.1 ∧ R32 (0) (3) r.2.1.2.1 ∧ R32 (-1) (-1) r.2.1.2.2 ∧ R32 (0) (16) r.2.2.2.2.1 ∧ R32 (1) (3) r.2.2.2.2.2) := by
  intro n
  induction n with
  | zero =>
    intro v34_l1 v34_m_h h_v34_l1 h_v34_m_h_2_2_1 h_v34_m_h_2_2_2 hm
    exact (ms_0u h_v34_l1 hm).elim
  | succ n ih =>
    intro v34_l1 v34_m_h h_v34_l1 h_v34_m_h_2_2_1 h_v34_m_h_2_2_2 hm
    rw [f_X12_mark_L34]
    refine tp_if (fun c1 => ?_) (fun c1 => ?_)
    · skip
      have r2 : R32 (26) (26) v34_l1 := r_le2 (r_n (x := (26 : Int32)) (l := 26) (h := 26) (by decide) (by decide)) h_v34_l1 c1
      refine tp_e (f_X12_good.eq_1 _ _) ?_
      refine tp_nl ?_
      exact tp_s ⟨(r_w (l' := -1) (h' := 2) (r_sub (l := 0) (h := 2) (r_add (l := 1) (h := 3) h_v34_m_h_2_2_2 (r_n (x := (1 : Int32)) (l := 1) (h := 1) (by decide) (by decide)) (by decide) (by decide) (by decide) (by decide)) (r_n (x := (1 : Int32)) (l := 1) (h := 1) (by decide) (by decide)) (by decide) (by decide) (by decide) (by decide)) (by decide) (by decide)), (r_n (x := (0 : Int32)) (l := 0) (h := 0) (by decide) (by decide)), (r_w (l' := 0) (h' := 3) (r_n (x := (0 : Int32)) (l := 0) (h := 0) (by decide) (by decide)) (by decide) (by decide)), (r_n (x := (-1 : Int32)) (l := -1) (h := -1) (by decide) (by decide)), h_v34_m_h_2_2_1, (r_add (l := 1) (h := 3) h_v34_m_h_2_2_2 (r_n (x := (1 : Int32)) (l := 1) (h := 1) (by decide) (by decide)) (by decide) (by decide) (by decide) (by decide))⟩
    · skip
      have r3 : R32 (0) (25) v34_l1 := r_nle2 (by decide) (r_n (x := (26 : Int32)) (l := 26) (h := 26) (by decide) (by decide)) h_v34_l1 c1
      refine tp_g r3 (by decide) (by decide) ?_
      refine tp_g (r_add (l := 0) (h := 77) (r_mul (l := 0) (h := 52) (r_n (x := (26 : Int32)) (l := 26) (h := 26) (by decide) (by decide)) h_v34_m_h_2_2_2 (by decide) (by decide) (by decide) (by decide) (by decide)) r3 (by decide) (by decide) (by decide) (by decide)) (by decide) (by decide) ?_
      exact ih _ _ (r_w (l' := 0) (h' := 26) (r_add (l := 1) (h := 26) r3 (r_n (x := (1 : Int32)) (l := 1) (h := 1) (by decide) (by decide)) (by decide) (by decide) (by decide) (by decide)) (by decide) (by decide)) h_v34_m_h_2_2_1 h_v34_m_h_2_2_2 (ms_up (y := (1 : Int32)) r3 (by decide) (by decide) (by decide) hm)
theorem t_f_X12_mark {m_t : TX12_t} {m_v : TX12_v} {m_h : TX12_h} (h_m_h_2_2_1 : R32 (0) (16) m_h.2.2.1) (h_m_h_2_2_2 : R32 (0) (3) m_h.2.2.2) : TotP (f_X12_mark m_t m_v m_h) (fun (r : Int32 × TX12_t × TX12_h) => R32 (-1) (2) r.1 ∧ R32 (0) (0) r.2.1.1 ∧ R32 (0) (3) r.2.1.2.1 ∧ R32 (-1) (-1) r.2.1.2.2 ∧ R32 (0) (16) r.2.2.2.2.1 ∧ R32 (1) (3) r.2.2.2.2.2) := by
  unfold f_X12_mark
  refine tp_if (fun c1 => ?_) (fun c1 => ?_)
  · skip
    have r2 : R32 (3) (3) m_h.2.2.2 := r_eq1 (l := 3) (h := 3) (by decide) (by decide) h_m_h_2_2_2 (r_n (x := (3 : Int32)) (l := 3) (h := 3) (by decide) (by decide)) c1
    refine tp_e (f_X12_refused.eq_1 _ _) ?_
    refine tp_nl ?_
    exact tp_s ⟨(r_w (l' := -1) (h' := 2) (r_n (x := (-1 : Int32)) (l := -1) (h := -1) (by decide) (by decide)) (by decide) (by decide)), (r_n (x := (0 : Int32)) (l := 0) (h := 0) (by decide) (by decide)), (r_w (l' := 0) (h' := 3) (r_n (x := (3 : Int32)) (l := 3) (h := 3) (by decide) (by decide)) (by decide) (by decide)), (r_n (x := (-1 : Int32)) (l := -1) (h := -1) (by decide) (by decide)), h_m_h_2_2_1, (r_w (l' := 1) (h' := 3) r2 (by decide) (by decide))⟩
  · skip
    have r3 : R32 (0) (2) m_h.2.2.2 := r_neH (by decide) h_m_h_2_2_2 (r_n (x := (3 : Int32)) (l := 3) (h := 3) (by decide) (by decide)) c1
    exact t_f_X12_mark_L34  FU _ _ (r_w (l' := 0) (h' := 26) (r_n (x := (0 : Int32)) (l := 0) (h := 0) (by decide) (by decide)) (by decide) (by decide)) h_m_h_2_2_1 r3 (fu_up (r_w (l' := 0) (h' := 26) (r_n (x := (0 : Int32)) (l := 0) (h := 0) (by decide) (by decide)) (by decide) (by decide)) (by decide))
theorem t_f_X12_back_J24 {m_t : TX12_t} {m_v : TX12_v} {m_h : TX12_h} (h_m_h_2_2_1 : R32 (0) (16) m_h.2.2.1) (h_m_h_2_2_2 : R32 (0) (3) m_h.2.2.2) : TotP (f_X12_back_J24 m_t m_v m_h) (fun (r : Int32 × TX12_t × TX12_v × TX12_h) => R32 (0) (1) r.1 ∧ R32 (0) (0) r.2.1.1 ∧ R32 (0) (1) r.2.1.2.1 ∧ R32 (-1) (-1) r.2.1.2.2 ∧ R32 (0) (16) r.2.2.2.2.2.1 ∧ R32 (0) (3) r.2.2.2.2.2.2) := by
  unfold f_X12_back_J24
  refine tp_e (f_X12_denied.eq_1 _ _) ?_
  refine tp_nn ?_
  refine tp_e (f_X12_refused.eq_1 _ _) ?_
  refine tp_nl ?_
  refine tp_nl ?_
  exact tp_s ⟨(r_w (l' := 0) (h' := 1) (r_n (x := (0 : Int32)) (l := 0) (h := 0) (by decide) (by decide)) (by decide) (by decide)), (r_n (x := (0 : Int32)) (l := 0) (h := 0) (by decide) (by decide)), (r_w (l' := 0) (h' := 1) (r_n (x := (1 : Int32)) (l := 1) (h := 1) (by decide) (by decide)) (by decide) (by decide)), (r_n (x := (-1 : Int32)) (l := -1) (h := -1) (by decide) (by decide)), h_m_h_2_2_1, h_m_h_2_2_2⟩
theorem t_f_X12_back_L32 {k1 : Int32} {m_t : TX12_t} {m_h : TX12_h} (h_k1 : R32 (0) (2) k1) (h_m_h_2_2_1 : R32 (0) (16) m_h.2.2.1) (h_m_h_2_2_2 : R32 (1) (3) m_h.2.2.2) : ∀ (n : Nat) (v32_l2 : Int32) (v32_m_v : TX12_v), R32 (0) (26) v32_l2 → (26 : Int) - v32_l2.toInt < (n : Int) → TotP (f_X12_back_L32 k1 m_t m_h n v32_l2 v32_m_v) (fun (r : Int32 × TX12_t × TX12_v × TX12_h) => R32 (0) (1) r.1 ∧ R32 (0) (0) r.2.1.1 ∧ R32 (0) (1) r.2.1.2.1 ∧ R32 (-1) (-1) r.2.1.2.2 ∧ R32 (0) (16) r.2.2.2.2.2.1 ∧ R32 (0) (3) r.2.2.2.2.2.2) := by
  intro n
  induction n with
  | zero =>
    intro v32_l2 v32_m_v h_v32_l2 hm
    exact (ms_0u h_v32_l2 hm).elim
  | succ n ih =>
    intro v32_l2 v32_m_v h_v32_l2 hm
    rw [f_X12_back_L32]
    refine tp_if (fun c1 => ?_) (fun c1 => ?_)
    · skip
      have r2 : R32 (26) (26) v32_l2 := r_le2 (r_n (x := (26 : Int32)) (l := 26) (h := 26) (by decide) (by decide)) h_v32_l2 c1
      refine tp_e (f_X12_granted.eq_1 _) ?_
      refine tp_nn ?_
      refine tp_e (f_X12_good.eq_1 _ _) ?_
      refine tp_nl ?_
      refine tp_nl ?_
      exact tp_s ⟨(r_w (l' := 0) (h' := 1) (r_n (x := (1 : Int32)) (l := 1) (h := 1) (by decide) (by decide)) (by decide) (by decide)), (r_n (x := (0 : Int32)) (l := 0) (h := 0) (by decide) (by decide)), (r_w (l' := 0) (h' := 1) (r_n (x := (0 : Int32)) (l := 0) (h := 0) (by decide) (by decide)) (by decide) (by decide)), (r_n (x := (-1 : Int32)) (l := -1) (h := -1) (by decide) (by decide)), (r_w (l' := 0) (h' := 16) (r_n (x := (0 : Int32)) (l := 0) (h := 0) (by decide) (by decide)) (by decide) (by decide)), (r_w (l' := 0) (h' := 3) h_m_h_2_2_2 (by decide) (by decide))⟩
    · skip
      have r3 : R32 (0) (25) v32_l2 := r_nle2 (by decide) (r_n (x := (26 : Int32)) (l := 26) (h := 26) (by decide) (by decide)) h_v32_l2 c1
      refine tp_g (r_add (l := 0) (h := 77) (r_mul (l := 0) (h := 52) (r_n (x := (26 : Int32)) (l := 26) (h := 26) (by decide) (by decide)) h_k1 (by decide) (by decide) (by decide) (by decide) (by decide)) r3 (by decide) (by decide) (by decide) (by decide)) (by decide) (by decide) ?_
      refine tp_g r3 (by decide) (by decide) ?_
      exact ih _ _ (r_w (l' := 0) (h' := 26) (r_add (l := 1) (h := 26) r3 (r_n (x := (1 : Int32)) (l := 1) (h := 1) (by decide) (by decide)) (by decide) (by decide) (by decide) (by decide)) (by decide) (by decide)) (ms_up (y := (1 : Int32)) r3 (by decide) (by decide) (by decide) hm)
theorem t_f_X12_back {k1 : Int32} {m_t : TX12_t} {m_v : TX12_v} {m_h : TX12_h} (h_m_h_2_2_1 : R32 (0) (16) m_h.2.2.1) (h_m_h_2_2_2 : R32 (0) (3) m_h.2.2.2) : TotP (f_X12_back k1 m_t m_v m_h) (fun (r : Int32 × TX12_t × TX12_v × TX12_h) => R32 (0) (1) r.1 ∧ R32 (0) (0) r.2.1.1 ∧ R32 (0) (1) r.2.1.2.1 ∧ R32 (-1) (-1) r.2.1.2.2 ∧ R32 (0) (16) r.2.2.2.2.2.1 ∧ R32 (0) (3) r.2.2.2.2.2.2) := by
  unfold f_X12_back
  refine tp_if (fun c1 => ?_) (fun c1 => ?_)
  · skip
    have r2 : R32 (-2147483648) (-1) k1 := r_lt1 (by decide) (r_top _) (r_n (x := (0 : Int32)) (l := 0) (h := 0) (by decide) (by decide)) c1
    exact t_f_X12_back_J24 h_m_h_2_2_1 h_m_h_2_2_2
  · skip
    have r3 : R32 (0) (2147483647) k1 := r_nlt1 (r_top _) (r_n (x := (0 : Int32)) (l := 0) (h := 0) (by decide) (by decide)) c1
    refine tp_if (fun c4 => ?_) (fun c4 => ?_)
    · skip
      have r5 : R32 (0) (2) k1 := r_lt1 (by decide) r3 h_m_h_2_2_2 c4
      have r6 : R32 (1) (3) m_h.2.2.2 := r_lt2 (by decide) r3 h_m_h_2_2_2 c4
      exact t_f_X12_back_L32 r5 h_m_h_2_2_1 r6 FU _ _ (r_w (l' := 0) (h' := 26) (r_n (x := (0 : Int32)) (l := 0) (h := 0) (by decide) (by decide)) (by decide) (by decide)) (fu_up (r_w (l' := 0) (h' := 26) (r_n (x := (0 : Int32)) (l := 0) (h := 0) (by decide) (by decide)) (by decide) (by decide)) (by decide))
    · skip
      exact t_f_X12_back_J24 h_m_h_2_2_1 h_m_h_2_2_2
theorem t_f_X10_answer {k1 : Int32} {k2 : Int32} {x_x : TX10_x} {p_p : TX6_p} {n_n : TX4_n} (h_p_p_1 : R32 (0) (8) p_p.1) (h_p_p_2_1 : R32 (0) (9) p_p.2.1) (h_p_p_2_2_2_2_1 : R32 (0) (4) p_p.2.2.2.2.1) (h_p_p_2_2_2_2_2_1 : R32 (0) (5) p_p.2.2.2.2.2.1) (h_p_p_2_2_2_2_2_2_1 : R32 (0) (6) p_p.2.2.2.2.2.2.1) (h_p_p_2_2_2_2_2_2_2_1 : R32 (0) (6) p_p.2.2.2.2.2.2.2.1) : TotP (f_X10_answer k1 k2 x_x p_p n_n) (fun (r : Int32 × TX10_x) => R32 (0) (1) r.2.1) := by
  unfold f_X10_answer
  refine tp_e (f_X10_within.eq_1 _ _ _) ?_
  refine tp_nif (fun c1 => ?_) (fun c1 => ?_)
  · skip
    have r2 : R32 (-2147483648) (-1) k2 := r_lt1 (by decide) (r_top _) (r_n (x := (0 : Int32)) (l := 0) (h := 0) (by decide) (by decide)) c1
    refine tp_nl ?_
    refine tp_ift (d_eq (r_n (x := (0 : Int32)) (l := 0) (h := 0) (by decide) (by decide)) (r_n (x := (0 : Int32)) (l := 0) (h := 0) (by decide) (by decide))) ?_
    refine tp_u (f_X10_answer_J20.eq_1 _ _ _ _ _ _) ?_
    refine tp_e (f_X10_refused.eq_1 _ _) ?_
    refine tp_niff (d_ne2 (r_n (x := (1 : Int32)) (l := 1) (h := 1) (by decide) (by decide)) (r_n (x := (0 : Int32)) (l := 0) (h := 0) (by decide) (by decide)) (by decide)) ?_
    refine tp_nl ?_
    refine tp_iff (d_ne2 (r_n (x := (1 : Int32)) (l := 1) (h := 1) (by decide) (by decide)) (r_n (x := (0 : Int32)) (l := 0) (h := 0) (by decide) (by decide)) (by decide)) ?_
    exact tp_s (r_w (l' := 0) (h' := 1) (r_n (x := (1 : Int32)) (l := 1) (h := 1) (by decide) (by decide)) (by decide) (by decide))
  · skip
    have r3 : R32 (0) (2147483647) k2 := r_nlt1 (r_top _) (r_n (x := (0 : Int32)) (l := 0) (h := 0) (by decide) (by decide)) c1
    refine tp_nif (fun c4 => ?_) (fun c4 => ?_)
    · skip
      have r5 : R32 (10) (2147483647) k2 := r_lt2 (by decide) (r_n (x := (9 : Int32)) (l := 9) (h := 9) (by decide) (by decide)) r3 c4
      refine tp_nl ?_
      refine tp_ift (d_eq (r_n (x := (0 : Int32)) (l := 0) (h := 0) (by decide) (by decide)) (r_n (x := (0 : Int32)) (l := 0) (h := 0) (by decide) (by decide))) ?_
      refine tp_u (f_X10_answer_J20.eq_1 _ _ _ _ _ _) ?_
      refine tp_e (f_X10_refused.eq_1 _ _) ?_
      refine tp_niff (d_ne2 (r_n (x := (1 : Int32)) (l := 1) (h := 1) (by decide) (by decide)) (r_n (x := (0 : Int32)) (l := 0) (h := 0) (by decide) (by decide)) (by decide)) ?_
      refine tp_nl ?_
      refine tp_iff (d_ne2 (r_n (x := (1 : Int32)) (l := 1) (h := 1) (by decide) (by decide)) (r_n (x := (0 : Int32)) (l := 0) (h := 0) (by decide) (by decide)) (by decide)) ?_
      exact tp_s (r_w (l' := 0) (h' := 1) (r_n (x := (1 : Int32)) (l := 1) (h := 1) (by decide) (by decide)) (by decide) (by decide))
    · skip
      have r6 : R32 (0) (9) k2 := r_nlt2 (r_n (x := (9 : Int32)) (l := 9) (h := 9) (by decide) (by decide)) r3 c4
      refine tp_nl ?_
      refine tp_iff (d_ne2 (r_n (x := (1 : Int32)) (l := 1) (h := 1) (by decide) (by decide)) (r_n (x := (0 : Int32)) (l := 0) (h := 0) (by decide) (by decide)) (by decide)) ?_
      refine tp_e (f_X10_answerTrouble.eq_1 _ _) ?_
      refine tp_nn ?_
      refine tp_e (f_X6_hasAnswer.eq_1 _ _) ?_
      refine tp_nn ?_
      refine tp_e (f_X10_within.eq_1 _ _ _) ?_
      refine tp_nif (fun c7 => ?_) (fun c7 => ?_)
      · skip
        have r8 : R32 (-2147483648) (-1) k1 := r_lt1 (by decide) (r_top _) (r_n (x := (0 : Int32)) (l := 0) (h := 0) (by decide) (by decide)) c7
        refine tp_nl ?_
        refine tp_nl ?_
        refine tp_nift (d_eq (r_n (x := (0 : Int32)) (l := 0) (h := 0) (by decide) (by decide)) (r_n (x := (0 : Int32)) (l := 0) (h := 0) (by decide) (by decide))) ?_
        refine tp_nl ?_
        refine tp_u (f_X10_answer_J20.eq_1 _ _ _ _ _ _) ?_
        refine tp_e (f_X10_refused.eq_1 _ _) ?_
        refine tp_niff (d_ne2 (r_n (x := (1 : Int32)) (l := 1) (h := 1) (by decide) (by decide)) (r_n (x := (0 : Int32)) (l := 0) (h := 0) (by decide) (by decide)) (by decide)) ?_
        refine tp_nl ?_
        refine tp_iff (d_ne2 (r_n (x := (1 : Int32)) (l := 1) (h := 1) (by decide) (by decide)) (r_n (x := (0 : Int32)) (l := 0) (h := 0) (by decide) (by decide)) (by decide)) ?_
        exact tp_s (r_w (l' := 0) (h' := 1) (r_n (x := (1 : Int32)) (l := 1) (h := 1) (by decide) (by decide)) (by decide) (by decide))
      · skip
        have r9 : R32 (0) (2147483647) k1 := r_nlt1 (r_top _) (r_n (x := (0 : Int32)) (l := 0) (h := 0) (by decide) (by decide)) c7
        refine tp_nif (fun c10 => ?_) (fun c10 => ?_)
        · skip
          refine tp_nl ?_
          refine tp_nl ?_
          refine tp_nift (d_eq (r_n (x := (0 : Int32)) (l := 0) (h := 0) (by decide) (by decide)) (r_n (x := (0 : Int32)) (l := 0) (h := 0) (by decide) (by decide))) ?_
          refine tp_nl ?_
          refine tp_u (f_X10_answer_J20.eq_1 _ _ _ _ _ _) ?_
          refine tp_e (f_X10_refused.eq_1 _ _) ?_
          refine tp_niff (d_ne2 (r_n (x := (1 : Int32)) (l := 1) (h := 1) (by decide) (by decide)) (r_n (x := (0 : Int32)) (l := 0) (h := 0) (by decide) (by decide)) (by decide)) ?_
          refine tp_nl ?_
          refine tp_iff (d_ne2 (r_n (x := (1 : Int32)) (l := 1) (h := 1) (by decide) (by decide)) (r_n (x := (0 : Int32)) (l := 0) (h := 0) (by decide) (by decide)) (by decide)) ?_
          exact tp_s (r_w (l' := 0) (h' := 1) (r_n (x := (1 : Int32)) (l := 1) (h := 1) (by decide) (by decide)) (by decide) (by decide))
        · skip
          have r11 : R32 (0) (5) (p_p.2.2.2.2.2.2.1 - (1 : Int32)) := r_nlt1 (r_sub (l := -1) (h := 5) h_p_p_2_2_2_2_2_2_1 (r_n (x := (1 : Int32)) (l := 1) (h := 1) (by decide) (by decide)) (by decide) (by decide) (by decide) (by decide)) r9 c10
          have r12 : R32 (0) (5) k1 := r_nlt2 (r_sub (l := -1) (h := 5) h_p_p_2_2_2_2_2_2_1 (r_n (x := (1 : Int32)) (l := 1) (h := 1) (by decide) (by decide)) (by decide) (by decide) (by decide) (by decide)) r9 c10
          refine tp_nl ?_
          refine tp_nl ?_
          refine tp_niff (d_ne2 (r_n (x := (1 : Int32)) (l := 1) (h := 1) (by decide) (by decide)) (r_n (x := (0 : Int32)) (l := 0) (h := 0) (by decide) (by decide)) (by decide)) ?_
          refine tp_nl ?_
          refine tp_u (f_X10_answer_J20.eq_1 _ _ _ _ _ _) ?_
          refine tp_e (f_X10_refused.eq_1 _ _) ?_
          refine tp_nift (d_eq (r_n (x := (0 : Int32)) (l := 0) (h := 0) (by decide) (by decide)) (r_n (x := (0 : Int32)) (l := 0) (h := 0) (by decide) (by decide))) ?_
          refine tp_nl ?_
          refine tp_ift (d_eq (r_n (x := (0 : Int32)) (l := 0) (h := 0) (by decide) (by decide)) (r_n (x := (0 : Int32)) (l := 0) (h := 0) (by decide) (by decide))) ?_
          refine tp_if (fun c13 => ?_) (fun c13 => ?_)
          · skip
            have r14 : R32 (0) (0) k2 := r_eq1 (l := 0) (h := 0) (by decide) (by decide) r6 (r_n (x := (0 : Int32)) (l := 0) (h := 0) (by decide) (by decide)) c13
            refine tp_g r12 (by decide) (by decide) ?_
            exact tp_s (r_w (l' := 0) (h' := 1) (r_n (x := (0 : Int32)) (l := 0) (h := 0) (by decide) (by decide)) (by decide) (by decide))
          · skip
            have r15 : R32 (1) (9) k2 := r_neL (by decide) r6 (r_n (x := (0 : Int32)) (l := 0) (h := 0) (by decide) (by decide)) c13
            refine tp_if (fun c16 => ?_) (fun c16 => ?_)
            · skip
              have r17 : R32 (1) (1) k2 := r_eq1 (l := 1) (h := 1) (by decide) (by decide) r15 (r_n (x := (1 : Int32)) (l := 1) (h := 1) (by decide) (by decide)) c16
              refine tp_g r12 (by decide) (by decide) ?_
              exact tp_s (r_w (l' := 0) (h' := 1) (r_n (x := (0 : Int32)) (l := 0) (h := 0) (by decide) (by decide)) (by decide) (by decide))
            · skip
              have r18 : R32 (2) (9) k2 := r_neL (by decide) r15 (r_n (x := (1 : Int32)) (l := 1) (h := 1) (by decide) (by decide)) c16
              refine tp_if (fun c19 => ?_) (fun c19 => ?_)
              · skip
                have r20 : R32 (2) (2) k2 := r_eq1 (l := 2) (h := 2) (by decide) (by decide) r18 (r_n (x := (2 : Int32)) (l := 2) (h := 2) (by decide) (by decide)) c19
                refine tp_g r12 (by decide) (by decide) ?_
                exact tp_s (r_w (l' := 0) (h' := 1) (r_n (x := (0 : Int32)) (l := 0) (h := 0) (by decide) (by decide)) (by decide) (by decide))
              · skip
                have r21 : R32 (3) (9) k2 := r_neL (by decide) r18 (r_n (x := (2 : Int32)) (l := 2) (h := 2) (by decide) (by decide)) c19
                refine tp_if (fun c22 => ?_) (fun c22 => ?_)
                · skip
                  have r23 : R32 (3) (3) k2 := r_eq1 (l := 3) (h := 3) (by decide) (by decide) r21 (r_n (x := (3 : Int32)) (l := 3) (h := 3) (by decide) (by decide)) c22
                  refine tp_g r12 (by decide) (by decide) ?_
                  exact tp_s (r_w (l' := 0) (h' := 1) (r_n (x := (0 : Int32)) (l := 0) (h := 0) (by decide) (by decide)) (by decide) (by decide))
                · skip
                  have r24 : R32 (4) (9) k2 := r_neL (by decide) r21 (r_n (x := (3 : Int32)) (l := 3) (h := 3) (by decide) (by decide)) c22
                  refine tp_if (fun c25 => ?_) (fun c25 => ?_)
                  · skip
                    have r26 : R32 (4) (4) k2 := r_eq1 (l := 4) (h := 4) (by decide) (by decide) r24 (r_n (x := (4 : Int32)) (l := 4) (h := 4) (by decide) (by decide)) c25
                    refine tp_g r12 (by decide) (by decide) ?_
                    exact tp_s (r_w (l' := 0) (h' := 1) (r_n (x := (0 : Int32)) (l := 0) (h := 0) (by decide) (by decide)) (by decide) (by decide))
                  · skip
                    have r27 : R32 (5) (9) k2 := r_neL (by decide) r24 (r_n (x := (4 : Int32)) (l := 4) (h := 4) (by decide) (by decide)) c25
                    refine tp_if (fun c28 => ?_) (fun c28 => ?_)
                    · skip
                      have r29 : R32 (5) (5) k2 := r_eq1 (l := 5) (h := 5) (by decide) (by decide) r27 (r_n (x := (5 : Int32)) (l := 5) (h := 5) (by decide) (by decide)) c28
                      refine tp_g r12 (by decide) (by decide) ?_
                      exact tp_s (r_w (l' := 0) (h' := 1) (r_n (x := (0 : Int32)) (l := 0) (h := 0) (by decide) (by decide)) (by decide) (by decide))
                    · skip
                      have r30 : R32 (6) (9) k2 := r_neL (by decide) r27 (r_n (x := (5 : Int32)) (l := 5) (h := 5) (by decide) (by decide)) c28
                      refine tp_if (fun c31 => ?_) (fun c31 => ?_)
                      · skip
                        have r32 : R32 (6) (6) k2 := r_eq1 (l := 6) (h := 6) (by decide) (by decide) r30 (r_n (x := (6 : Int32)) (l := 6) (h := 6) (by decide) (by decide)) c31
                        refine tp_g r12 (by decide) (by decide) ?_
                        exact tp_s (r_w (l' := 0) (h' := 1) (r_n (x := (0 : Int32)) (l := 0) (h := 0) (by decide) (by decide)) (by decide) (by decide))
                      · skip
                        have r33 : R32 (7) (9) k2 := r_neL (by decide) r30 (r_n (x := (6 : Int32)) (l := 6) (h := 6) (by decide) (by decide)) c31
                        refine tp_if (fun c34 => ?_) (fun c34 => ?_)
                        · skip
                          have r35 : R32 (7) (7) k2 := r_eq1 (l := 7) (h := 7) (by decide) (by decide) r33 (r_n (x := (7 : Int32)) (l := 7) (h := 7) (by decide) (by decide)) c34
                          refine tp_g r12 (by decide) (by decide) ?_
                          refine tp_if (fun c36 => ?_) (fun c36 => ?_)
                          · skip
                            have r37 : R32 (0) (0) (n_n.2.2.2.1 (k1).toNatClampNeg) := r_eq1 (l := 0) (h := 0) (by decide) (by decide) (r_top _) (r_n (x := (0 : Int32)) (l := 0) (h := 0) (by decide) (by decide)) c36
                            exact tp_s (r_w (l' := 0) (h' := 1) (r_n (x := (0 : Int32)) (l := 0) (h := 0) (by decide) (by decide)) (by decide) (by decide))
                          · skip
                            refine tp_g r12 (by decide) (by decide) ?_
                            exact tp_s (r_w (l' := 0) (h' := 1) (r_n (x := (0 : Int32)) (l := 0) (h := 0) (by decide) (by decide)) (by decide) (by decide))
                        · skip
                          have r38 : R32 (8) (9) k2 := r_neL (by decide) r33 (r_n (x := (7 : Int32)) (l := 7) (h := 7) (by decide) (by decide)) c34
                          refine tp_if (fun c39 => ?_) (fun c39 => ?_)
                          · skip
                            have r40 : R32 (8) (8) k2 := r_eq1 (l := 8) (h := 8) (by decide) (by decide) r38 (r_n (x := (8 : Int32)) (l := 8) (h := 8) (by decide) (by decide)) c39
                            refine tp_g r12 (by decide) (by decide) ?_
                            refine tp_if (fun c41 => ?_) (fun c41 => ?_)
                            · skip
                              have r42 : R32 (0) (0) (n_n.2.2.2.1 (k1).toNatClampNeg) := r_eq1 (l := 0) (h := 0) (by decide) (by decide) (r_top _) (r_n (x := (0 : Int32)) (l := 0) (h := 0) (by decide) (by decide)) c41
                              exact tp_s (r_w (l' := 0) (h' := 1) (r_n (x := (0 : Int32)) (l := 0) (h := 0) (by decide) (by decide)) (by decide) (by decide))
                            · skip
                              refine tp_g r12 (by decide) (by decide) ?_
                              exact tp_s (r_w (l' := 0) (h' := 1) (r_n (x := (0 : Int32)) (l := 0) (h := 0) (by decide) (by decide)) (by decide) (by decide))
                          · skip
                            have r43 : R32 (9) (9) k2 := r_neL (by decide) r38 (r_n (x := (8 : Int32)) (l := 8) (h := 8) (by decide) (by decide)) c39
                            refine tp_g r12 (by decide) (by decide) ?_
                            refine tp_if (fun c44 => ?_) (fun c44 => ?_)
                            · skip
                              have r45 : R32 (1) (1) (n_n.2.2.2.1 (k1).toNatClampNeg) := r_eq1 (l := 1) (h := 1) (by decide) (by decide) (r_top _) (r_n (x := (1 : Int32)) (l := 1) (h := 1) (by decide) (by decide)) c44
                              refine tp_b (t_f_X3_worthOn r12 h_p_p_1 h_p_p_2_1 h_p_p_2_2_2_2_1 h_p_p_2_2_2_2_2_1 h_p_p_2_2_2_2_2_2_1 h_p_p_2_2_2_2_2_2_2_1) (fun o233 h46 => ?_)
                              exact tp_s (r_w (l' := 0) (h' := 1) (r_n (x := (0 : Int32)) (l := 0) (h := 0) (by decide) (by decide)) (by decide) (by decide))
                            · skip
                              exact tp_s (r_w (l' := 0) (h' := 1) (r_n (x := (0 : Int32)) (l := 0) (h := 0) (by decide) (by decide)) (by decide) (by decide))
theorem t_f_X4_landedBits_J39 {k5_ : Int32 → Int32 → Option Int32} {v5_l4 : Int32} {v39_l3 : Int32} {N5 : Nat} (hk5 : ∀ (v5_l4 : Int32) (v5_l3 : Int32), R32 (0) (6) v5_l4 → R32 (0) (63) v5_l3 → (6 : Int) - v5_l4.toInt < (N5 : Nat) → TotP (k5_ v5_l4 v5_l3) (fun (r : Int32) => R32 (0) (63) r)) (hm5 : (6 : Int) - v5_l4.toInt < ((N5 + 1 : Nat) : Int)) (h_v5_l4 : R32 (0) (5) v5_l4) (h_v39_l3 : R32 (0) (63) v39_l3) : TotP (f_X4_landedBits_J39 k5_ v5_l4 v39_l3) (fun (r : Int32) => R32 (0) (63) r) := by
  unfold f_X4_landedBits_J39
  exact hk5 _ _ (r_w (l' := 0) (h' := 6) (r_add (l := 1) (h := 6) h_v5_l4 (r_n (x := (1 : Int32)) (l := 1) (h := 1) (by decide) (by decide)) (by decide) (by decide) (by decide) (by decide)) (by decide) (by decide)) h_v39_l3 (ms_up (y := (1 : Int32)) h_v5_l4 (by decide) (by decide) (by decide) hm5)
theorem t_f_X4_landedBits_L5 {k1 : Int32} {k2 : Int32} {n_n : TX4_n} (h_k1 : R32 (0) (6) k1) (h_k2 : R32 (0) (4) k2) : ∀ (n : Nat) (v5_l4 : Int32) (v5_l3 : Int32), R32 (0) (6) v5_l4 → R32 (0) (63) v5_l3 → (6 : Int) - v5_l4.toInt < (n : Int) → TotP (f_X4_landedBits_L5 k1 k2 n_n n v5_l4 v5_l3) (fun (r : Int32) => R32 (0) (63) r) := by
  intro n
  induction n with
  | zero =>
    intro v5_l4 v5_l3 h_v5_l4 h_v5_l3 hm
    exact (ms_0u h_v5_l4 hm).elim
  | succ n ih =>
    intro v5_l4 v5_l3 h_v5_l4 h_v5_l3 hm
    rw [f_X4_landedBits_L5]
    refine tp_if (fun c1 => ?_) (fun c1 => ?_)
    · skip
      exact tp_s h_v5_l3
    · skip
      have r2 : R32 (1) (6) k1 := r_nle1 (by decide) h_k1 h_v5_l4 c1
      have r3 : R32 (0) (5) v5_l4 := r_nle2 (by decide) h_k1 h_v5_l4 c1
      refine tp_g r3 (by decide) (by decide) ?_
      refine tp_if (fun c4 => ?_) (fun c4 => ?_)
      · skip
        have r5 : R32 (0) (0) (n_n.2.2.2.1 (v5_l4).toNatClampNeg) := r_eq1 (l := 0) (h := 0) (by decide) (by decide) (r_top _) (r_n (x := (0 : Int32)) (l := 0) (h := 0) (by decide) (by decide)) c4
        exact t_f_X4_landedBits_J39 ih hm r3 h_v5_l3
      · skip
        refine tp_g r3 (by decide) (by decide) ?_
        refine tp_if (fun c6 => ?_) (fun c6 => ?_)
        · skip
          have r7 : R32 (0) (4) (n_n.2.2.2.2.2.1 (v5_l4).toNatClampNeg) := r_eq1 (l := 0) (h := 4) (by decide) (by decide) (r_top _) h_k2 c6
          exact t_f_X4_landedBits_J39 ih hm r3 (r_or 6 63 h_v5_l3 (r_shl 0 5 (l := 1) (h := 32) r3 (by decide) (by decide) (by decide)) (by decide) (by decide) (by decide) (by decide) (by decide))
        · skip
          exact t_f_X4_landedBits_J39 ih hm r3 h_v5_l3
theorem t_f_X4_landedBits {k1 : Int32} {k2 : Int32} {n_n : TX4_n} (h_k1 : R32 (0) (6) k1) (h_k2 : R32 (0) (4) k2) : TotP (f_X4_landedBits k1 k2 n_n) (fun (r : Int32) => R32 (0) (63) r) := by
  unfold f_X4_landedBits
  exact t_f_X4_landedBits_L5 h_k1 h_k2 FU _ _ (r_w (l' := 0) (h' := 6) (r_n (x := (0 : Int32)) (l := 0) (h := 0) (by decide) (by decide)) (by decide) (by decide)) (r_w (l' := 0) (h' := 63) (r_n (x := (0 : Int32)) (l := 0) (h := 0) (by decide) (by decide)) (by decide) (by decide)) (fu_up (r_w (l' := 0) (h' := 6) (r_n (x := (0 : Int32)) (l := 0) (h := 0) (by decide) (by decide)) (by decide) (by decide)) (by decide))
theorem t_f_X10_asker {k1 : Int32} {k2 : Int32} {x_x : TX10_x} {p_p : TX6_p} {n_n : TX4_n} (h_p_p_1 : R32 (0) (8) p_p.1) (h_p_p_2_1 : R32 (0) (9) p_p.2.1) (h_p_p_2_2_2_2_1 : R32 (0) (4) p_p.2.2.2.2.1) (h_p_p_2_2_2_2_2_1 : R32 (0) (5) p_p.2.2.2.2.2.1) (h_p_p_2_2_2_2_2_2_1 : R32 (0) (6) p_p.2.2.2.2.2.2.1) (h_p_p_2_2_2_2_2_2_2_1 : R32 (0) (6) p_p.2.2.2.2.2.2.2.1) : TotP (f_X10_asker k1 k2 x_x p_p n_n) (fun (r : Int32 × TX10_x) => R32 (0) (1) r.2.1) := by
  unfold f_X10_asker
  refine tp_e (f_X10_within.eq_1 _ _ _) ?_
  refine tp_nif (fun c1 => ?_) (fun c1 => ?_)
  · skip
    have r2 : R32 (-2147483648) (-1) k2 := r_lt1 (by decide) (r_top _) (r_n (x := (0 : Int32)) (l := 0) (h := 0) (by decide) (by decide)) c1
    refine tp_nl ?_
    refine tp_ift (d_eq (r_n (x := (0 : Int32)) (l := 0) (h := 0) (by decide) (by decide)) (r_n (x := (0 : Int32)) (l := 0) (h := 0) (by decide) (by decide))) ?_
    refine tp_u (f_X10_asker_J19.eq_1 _ _ _ _ _ _) ?_
    refine tp_e (f_X10_refused.eq_1 _ _) ?_
    refine tp_niff (d_ne2 (r_n (x := (1 : Int32)) (l := 1) (h := 1) (by decide) (by decide)) (r_n (x := (0 : Int32)) (l := 0) (h := 0) (by decide) (by decide)) (by decide)) ?_
    refine tp_nl ?_
    refine tp_iff (d_ne2 (r_n (x := (1 : Int32)) (l := 1) (h := 1) (by decide) (by decide)) (r_n (x := (0 : Int32)) (l := 0) (h := 0) (by decide) (by decide)) (by decide)) ?_
    exact tp_s (r_w (l' := 0) (h' := 1) (r_n (x := (1 : Int32)) (l := 1) (h := 1) (by decide) (by decide)) (by decide) (by decide))
  · skip
    have r3 : R32 (0) (2147483647) k2 := r_nlt1 (r_top _) (r_n (x := (0 : Int32)) (l := 0) (h := 0) (by decide) (by decide)) c1
    refine tp_nif (fun c4 => ?_) (fun c4 => ?_)
    · skip
      have r5 : R32 (6) (2147483647) k2 := r_lt2 (by decide) (r_n (x := (5 : Int32)) (l := 5) (h := 5) (by decide) (by decide)) r3 c4
      refine tp_nl ?_
      refine tp_ift (d_eq (r_n (x := (0 : Int32)) (l := 0) (h := 0) (by decide) (by decide)) (r_n (x := (0 : Int32)) (l := 0) (h := 0) (by decide) (by decide))) ?_
      refine tp_u (f_X10_asker_J19.eq_1 _ _ _ _ _ _) ?_
      refine tp_e (f_X10_refused.eq_1 _ _) ?_
      refine tp_niff (d_ne2 (r_n (x := (1 : Int32)) (l := 1) (h := 1) (by decide) (by decide)) (r_n (x := (0 : Int32)) (l := 0) (h := 0) (by decide) (by decide)) (by decide)) ?_
      refine tp_nl ?_
      refine tp_iff (d_ne2 (r_n (x := (1 : Int32)) (l := 1) (h := 1) (by decide) (by decide)) (r_n (x := (0 : Int32)) (l := 0) (h := 0) (by decide) (by decide)) (by decide)) ?_
      exact tp_s (r_w (l' := 0) (h' := 1) (r_n (x := (1 : Int32)) (l := 1) (h := 1) (by decide) (by decide)) (by decide) (by decide))
    · skip
      have r6 : R32 (0) (5) k2 := r_nlt2 (r_n (x := (5 : Int32)) (l := 5) (h := 5) (by decide) (by decide)) r3 c4
      refine tp_nl ?_
      refine tp_iff (d_ne2 (r_n (x := (1 : Int32)) (l := 1) (h := 1) (by decide) (by decide)) (r_n (x := (0 : Int32)) (l := 0) (h := 0) (by decide) (by decide)) (by decide)) ?_
      refine tp_e (f_X10_askerTrouble.eq_1 _ _) ?_
      refine tp_nn ?_
      refine tp_e (f_X6_hasAsker.eq_1 _ _) ?_
      refine tp_nn ?_
      refine tp_e (f_X10_within.eq_1 _ _ _) ?_
      refine tp_nif (fun c7 => ?_) (fun c7 => ?_)
      · skip
        have r8 : R32 (-2147483648) (-1) k1 := r_lt1 (by decide) (r_top _) (r_n (x := (0 : Int32)) (l := 0) (h := 0) (by decide) (by decide)) c7
        refine tp_nl ?_
        refine tp_nl ?_
        refine tp_nift (d_eq (r_n (x := (0 : Int32)) (l := 0) (h := 0) (by decide) (by decide)) (r_n (x := (0 : Int32)) (l := 0) (h := 0) (by decide) (by decide))) ?_
        refine tp_nl ?_
        refine tp_u (f_X10_asker_J19.eq_1 _ _ _ _ _ _) ?_
        refine tp_e (f_X10_refused.eq_1 _ _) ?_
        refine tp_niff (d_ne2 (r_n (x := (1 : Int32)) (l := 1) (h := 1) (by decide) (by decide)) (r_n (x := (0 : Int32)) (l := 0) (h := 0) (by decide) (by decide)) (by decide)) ?_
        refine tp_nl ?_
        refine tp_iff (d_ne2 (r_n (x := (1 : Int32)) (l := 1) (h := 1) (by decide) (by decide)) (r_n (x := (0 : Int32)) (l := 0) (h := 0) (by decide) (by decide)) (by decide)) ?_
        exact tp_s (r_w (l' := 0) (h' := 1) (r_n (x := (1 : Int32)) (l := 1) (h := 1) (by decide) (by decide)) (by decide) (by decide))
      · skip
        have r9 : R32 (0) (2147483647) k1 := r_nlt1 (r_top _) (r_n (x := (0 : Int32)) (l := 0) (h := 0) (by decide) (by decide)) c7
        refine tp_nif (fun c10 => ?_) (fun c10 => ?_)
        · skip
          refine tp_nl ?_
          refine tp_nl ?_
          refine tp_nift (d_eq (r_n (x := (0 : Int32)) (l := 0) (h := 0) (by decide) (by decide)) (r_n (x := (0 : Int32)) (l := 0) (h := 0) (by decide) (by decide))) ?_
          refine tp_nl ?_
          refine tp_u (f_X10_asker_J19.eq_1 _ _ _ _ _ _) ?_
          refine tp_e (f_X10_refused.eq_1 _ _) ?_
          refine tp_niff (d_ne2 (r_n (x := (1 : Int32)) (l := 1) (h := 1) (by decide) (by decide)) (r_n (x := (0 : Int32)) (l := 0) (h := 0) (by decide) (by decide)) (by decide)) ?_
          refine tp_nl ?_
          refine tp_iff (d_ne2 (r_n (x := (1 : Int32)) (l := 1) (h := 1) (by decide) (by decide)) (r_n (x := (0 : Int32)) (l := 0) (h := 0) (by decide) (by decide)) (by decide)) ?_
          exact tp_s (r_w (l' := 0) (h' := 1) (r_n (x := (1 : Int32)) (l := 1) (h := 1) (by decide) (by decide)) (by decide) (by decide))
        · skip
          have r11 : R32 (0) (4) (p_p.2.2.2.2.2.1 - (1 : Int32)) := r_nlt1 (r_sub (l := -1) (h := 4) h_p_p_2_2_2_2_2_1 (r_n (x := (1 : Int32)) (l := 1) (h := 1) (by decide) (by decide)) (by decide) (by decide) (by decide) (by decide)) r9 c10
          have r12 : R32 (0) (4) k1 := r_nlt2 (r_sub (l := -1) (h := 4) h_p_p_2_2_2_2_2_1 (r_n (x := (1 : Int32)) (l := 1) (h := 1) (by decide) (by decide)) (by decide) (by decide) (by decide) (by decide)) r9 c10
          refine tp_nl ?_
          refine tp_nl ?_
          refine tp_niff (d_ne2 (r_n (x := (1 : Int32)) (l := 1) (h := 1) (by decide) (by decide)) (r_n (x := (0 : Int32)) (l := 0) (h := 0) (by decide) (by decide)) (by decide)) ?_
          refine tp_nl ?_
          refine tp_u (f_X10_asker_J19.eq_1 _ _ _ _ _ _) ?_
          refine tp_e (f_X10_refused.eq_1 _ _) ?_
          refine tp_nift (d_eq (r_n (x := (0 : Int32)) (l := 0) (h := 0) (by decide) (by decide)) (r_n (x := (0 : Int32)) (l := 0) (h := 0) (by decide) (by decide))) ?_
          refine tp_nl ?_
          refine tp_ift (d_eq (r_n (x := (0 : Int32)) (l := 0) (h := 0) (by decide) (by decide)) (r_n (x := (0 : Int32)) (l := 0) (h := 0) (by decide) (by decide))) ?_
          refine tp_g r12 (by decide) (by decide) ?_
          refine tp_if (fun c13 => ?_) (fun c13 => ?_)
          · skip
            have r14 : R32 (0) (0) k2 := r_eq1 (l := 0) (h := 0) (by decide) (by decide) r6 (r_n (x := (0 : Int32)) (l := 0) (h := 0) (by decide) (by decide)) c13
            refine tp_g r12 (by decide) (by decide) ?_
            exact tp_s (r_w (l' := 0) (h' := 1) (r_n (x := (0 : Int32)) (l := 0) (h := 0) (by decide) (by decide)) (by decide) (by decide))
          · skip
            have r15 : R32 (1) (5) k2 := r_neL (by decide) r6 (r_n (x := (0 : Int32)) (l := 0) (h := 0) (by decide) (by decide)) c13
            refine tp_if (fun c16 => ?_) (fun c16 => ?_)
            · skip
              have r17 : R32 (1) (1) k2 := r_eq1 (l := 1) (h := 1) (by decide) (by decide) r15 (r_n (x := (1 : Int32)) (l := 1) (h := 1) (by decide) (by decide)) c16
              refine tp_if (fun c18 => ?_) (fun c18 => ?_)
              · skip
                have r19 : R32 (-1) (-1) (n_n.2.2.2.2.2.2 (k1).toNatClampNeg) := r_eq1 (l := -1) (h := -1) (by decide) (by decide) (r_top _) (r_n (x := (-1 : Int32)) (l := -1) (h := -1) (by decide) (by decide)) c18
                exact tp_s (r_w (l' := 0) (h' := 1) (r_n (x := (0 : Int32)) (l := 0) (h := 0) (by decide) (by decide)) (by decide) (by decide))
              · skip
                refine tp_e (f_X10_spotOf.eq_1 _) ?_
                refine tp_n0 (fun o93 => ?_)
                exact tp_s (r_w (l' := 0) (h' := 1) (r_n (x := (0 : Int32)) (l := 0) (h := 0) (by decide) (by decide)) (by decide) (by decide))
            · skip
              have r20 : R32 (2) (5) k2 := r_neL (by decide) r15 (r_n (x := (1 : Int32)) (l := 1) (h := 1) (by decide) (by decide)) c16
              refine tp_if (fun c21 => ?_) (fun c21 => ?_)
              · skip
                have r22 : R32 (2) (2) k2 := r_eq1 (l := 2) (h := 2) (by decide) (by decide) r20 (r_n (x := (2 : Int32)) (l := 2) (h := 2) (by decide) (by decide)) c21
                refine tp_if (fun c23 => ?_) (fun c23 => ?_)
                · skip
                  have r24 : R32 (-1) (-1) (n_n.2.2.2.2.2.2 (k1).toNatClampNeg) := r_eq1 (l := -1) (h := -1) (by decide) (by decide) (r_top _) (r_n (x := (-1 : Int32)) (l := -1) (h := -1) (by decide) (by decide)) c23
                  exact tp_s (r_w (l' := 0) (h' := 1) (r_n (x := (0 : Int32)) (l := 0) (h := 0) (by decide) (by decide)) (by decide) (by decide))
                · skip
                  refine tp_e (f_X10_fathomsOf.eq_1 _) ?_
                  refine tp_nn ?_
                  refine tp_n0 (fun z6 => ?_)
                  refine tp_nl ?_
                  exact tp_s (r_w (l' := 0) (h' := 1) (r_n (x := (0 : Int32)) (l := 0) (h := 0) (by decide) (by decide)) (by decide) (by decide))
              · skip
                have r25 : R32 (3) (5) k2 := r_neL (by decide) r20 (r_n (x := (2 : Int32)) (l := 2) (h := 2) (by decide) (by decide)) c21
                refine tp_if (fun c26 => ?_) (fun c26 => ?_)
                · skip
                  have r27 : R32 (3) (3) k2 := r_eq1 (l := 3) (h := 3) (by decide) (by decide) r25 (r_n (x := (3 : Int32)) (l := 3) (h := 3) (by decide) (by decide)) c26
                  refine tp_if (fun c28 => ?_) (fun c28 => ?_)
                  · skip
                    have r29 : R32 (-1) (-1) (n_n.2.2.2.2.2.2 (k1).toNatClampNeg) := r_eq1 (l := -1) (h := -1) (by decide) (by decide) (r_top _) (r_n (x := (-1 : Int32)) (l := -1) (h := -1) (by decide) (by decide)) c28
                    exact tp_s (r_w (l' := 0) (h' := 1) (r_n (x := (0 : Int32)) (l := 0) (h := 0) (by decide) (by decide)) (by decide) (by decide))
                  · skip
                    refine tp_e (f_X10_baitOf.eq_1 _) ?_
                    refine tp_n0 (fun o123 => ?_)
                    exact tp_s (r_w (l' := 0) (h' := 1) (r_n (x := (0 : Int32)) (l := 0) (h := 0) (by decide) (by decide)) (by decide) (by decide))
                · skip
                  have r30 : R32 (4) (5) k2 := r_neL (by decide) r25 (r_n (x := (3 : Int32)) (l := 3) (h := 3) (by decide) (by decide)) c26
                  refine tp_if (fun c31 => ?_) (fun c31 => ?_)
                  · skip
                    have r32 : R32 (4) (4) k2 := r_eq1 (l := 4) (h := 4) (by decide) (by decide) r30 (r_n (x := (4 : Int32)) (l := 4) (h := 4) (by decide) (by decide)) c31
                    refine tp_b (t_f_X4_landedBits h_p_p_2_2_2_2_2_2_1 r12) (fun o139 h33 => ?_)
                    exact tp_s (r_w (l' := 0) (h' := 1) (r_n (x := (0 : Int32)) (l := 0) (h := 0) (by decide) (by decide)) (by decide) (by decide))
                  · skip
                    have r34 : R32 (5) (5) k2 := r_neL (by decide) r30 (r_n (x := (4 : Int32)) (l := 4) (h := 4) (by decide) (by decide)) c31
                    refine tp_if (fun c35 => ?_) (fun c35 => ?_)
                    · skip
                      have r36 : R32 (-1) (-1) (n_n.2.2.2.2.2.2 (k1).toNatClampNeg) := r_eq1 (l := -1) (h := -1) (by decide) (by decide) (r_top _) (r_n (x := (-1 : Int32)) (l := -1) (h := -1) (by decide) (by decide)) c35
                      exact tp_s (r_w (l' := 0) (h' := 1) (r_n (x := (0 : Int32)) (l := 0) (h := 0) (by decide) (by decide)) (by decide) (by decide))
                    · skip
                      refine tp_e (f_X10_spotOf.eq_1 _) ?_
                      refine tp_n0 (fun o158 => ?_)
                      refine tp_b (t_f_X4_isTangled r12 h_p_p_1 h_p_p_2_1 h_p_p_2_2_2_2_1 h_p_p_2_2_2_2_2_1 h_p_p_2_2_2_2_2_2_1 h_p_p_2_2_2_2_2_2_2_1) (fun o161 h37 => ?_)
                      refine tp_if (fun c38 => ?_) (fun c38 => ?_)
                      · skip
                        have r39 : R32 (0) (0) o161 := r_eq1 (l := 0) (h := 0) (by decide) (by decide) h37 (r_n (x := (0 : Int32)) (l := 0) (h := 0) (by decide) (by decide)) c38
                        exact tp_s (r_w (l' := 0) (h' := 1) (r_n (x := (0 : Int32)) (l := 0) (h := 0) (by decide) (by decide)) (by decide) (by decide))
                      · skip
                        have r40 : R32 (1) (1) o161 := r_neL (by decide) h37 (r_n (x := (0 : Int32)) (l := 0) (h := 0) (by decide) (by decide)) c38
                        exact tp_s (r_w (l' := 0) (h' := 1) (r_n (x := (0 : Int32)) (l := 0) (h := 0) (by decide) (by decide)) (by decide) (by decide))
theorem t_f_X10_wish {k1 : Int32} {k2 : Int32} {k3 : Int32} {k4 : Int32} {x_x : TX10_x} {p_p : TX6_p} (h_p_p_1 : R32 (0) (8) p_p.1) (h_p_p_2_1 : R32 (0) (9) p_p.2.1) (h_p_p_2_2_2_2_1 : R32 (0) (4) p_p.2.2.2.2.1) (h_p_p_2_2_2_2_2_1 : R32 (0) (5) p_p.2.2.2.2.2.1) (h_p_p_2_2_2_2_2_2_1 : R32 (0) (6) p_p.2.2.2.2.2.2.1) (h_p_p_2_2_2_2_2_2_2_1 : R32 (0) (6) p_p.2.2.2.2.2.2.2.1) : TotP (f_X10_wish k1 k2 k3 k4 x_x p_p) (fun (r : Int32 × TX10_x) => R32 (0) (2) r.2.1) := by
  unfold f_X10_wish
  refine tp_e (f_X10_wishTrouble.eq_1 _ _ _ _ _) ?_
  refine tp_nn ?_
  refine tp_e (f_X10_answerTrouble.eq_1 _ _) ?_
  refine tp_nn ?_
  refine tp_e (f_X6_hasAnswer.eq_1 _ _) ?_
  refine tp_nn ?_
  refine tp_e (f_X10_within.eq_1 _ _ _) ?_
  refine tp_nif (fun c1 => ?_) (fun c1 => ?_)
  · skip
    have r2 : R32 (-2147483648) (-1) k1 := r_lt1 (by decide) (r_top _) (r_n (x := (0 : Int32)) (l := 0) (h := 0) (by decide) (by decide)) c1
    refine tp_nl ?_
    refine tp_nl ?_
    refine tp_nift (d_eq (r_n (x := (0 : Int32)) (l := 0) (h := 0) (by decide) (by decide)) (r_n (x := (0 : Int32)) (l := 0) (h := 0) (by decide) (by decide))) ?_
    refine tp_nl ?_
    refine tp_niff (d_ne2 (r_n (x := (1 : Int32)) (l := 1) (h := 1) (by decide) (by decide)) (r_n (x := (0 : Int32)) (l := 0) (h := 0) (by decide) (by decide)) (by decide)) ?_
    refine tp_nl ?_
    refine tp_e (f_X10_refused.eq_1 _ _) ?_
    refine tp_niff (d_ne2 (r_n (x := (1 : Int32)) (l := 1) (h := 1) (by decide) (by decide)) (r_n (x := (0 : Int32)) (l := 0) (h := 0) (by decide) (by decide)) (by decide)) ?_
    refine tp_nl ?_
    refine tp_iff (d_ne2 (r_n (x := (1 : Int32)) (l := 1) (h := 1) (by decide) (by decide)) (r_n (x := (0 : Int32)) (l := 0) (h := 0) (by decide) (by decide)) (by decide)) ?_
    exact tp_s (r_w (l' := 0) (h' := 2) (r_n (x := (1 : Int32)) (l := 1) (h := 1) (by decide) (by decide)) (by decide) (by decide))
  · skip
    have r3 : R32 (0) (2147483647) k1 := r_nlt1 (r_top _) (r_n (x := (0 : Int32)) (l := 0) (h := 0) (by decide) (by decide)) c1
    refine tp_nif (fun c4 => ?_) (fun c4 => ?_)
    · skip
      refine tp_nl ?_
      refine tp_nl ?_
      refine tp_nift (d_eq (r_n (x := (0 : Int32)) (l := 0) (h := 0) (by decide) (by decide)) (r_n (x := (0 : Int32)) (l := 0) (h := 0) (by decide) (by decide))) ?_
      refine tp_nl ?_
      refine tp_niff (d_ne2 (r_n (x := (1 : Int32)) (l := 1) (h := 1) (by decide) (by decide)) (r_n (x := (0 : Int32)) (l := 0) (h := 0) (by decide) (by decide)) (by decide)) ?_
      refine tp_nl ?_
      refine tp_e (f_X10_refused.eq_1 _ _) ?_
      refine tp_niff (d_ne2 (r_n (x := (1 : Int32)) (l := 1) (h := 1) (by decide) (by decide)) (r_n (x := (0 : Int32)) (l := 0) (h := 0) (by decide) (by decide)) (by decide)) ?_
      refine tp_nl ?_
      refine tp_iff (d_ne2 (r_n (x := (1 : Int32)) (l := 1) (h := 1) (by decide) (by decide)) (r_n (x := (0 : Int32)) (l := 0) (h := 0) (by decide) (by decide)) (by decide)) ?_
      exact tp_s (r_w (l' := 0) (h' := 2) (r_n (x := (1 : Int32)) (l := 1) (h := 1) (by decide) (by decide)) (by decide) (by decide))
    · skip
      have r5 : R32 (0) (5) (p_p.2.2.2.2.2.2.1 - (1 : Int32)) := r_nlt1 (r_sub (l := -1) (h := 5) h_p_p_2_2_2_2_2_2_1 (r_n (x := (1 : Int32)) (l := 1) (h := 1) (by decide) (by decide)) (by decide) (by decide) (by decide) (by decide)) r3 c4
      have r6 : R32 (0) (5) k1 := r_nlt2 (r_sub (l := -1) (h := 5) h_p_p_2_2_2_2_2_2_1 (r_n (x := (1 : Int32)) (l := 1) (h := 1) (by decide) (by decide)) (by decide) (by decide) (by decide) (by decide)) r3 c4
      refine tp_nl ?_
      refine tp_nl ?_
      refine tp_niff (d_ne2 (r_n (x := (1 : Int32)) (l := 1) (h := 1) (by decide) (by decide)) (r_n (x := (0 : Int32)) (l := 0) (h := 0) (by decide) (by decide)) (by decide)) ?_
      refine tp_nl ?_
      refine tp_nift (d_eq (r_n (x := (0 : Int32)) (l := 0) (h := 0) (by decide) (by decide)) (r_n (x := (0 : Int32)) (l := 0) (h := 0) (by decide) (by decide))) ?_
      refine tp_nn ?_
      refine tp_e (f_X10_questionTrouble.eq_1 _ _ _ _) ?_
      refine tp_nn ?_
      refine tp_e (f_X6_hasSpot.eq_1 _ _) ?_
      refine tp_nn ?_
      refine tp_e (f_X10_within.eq_1 _ _ _) ?_
      refine tp_nif (fun c7 => ?_) (fun c7 => ?_)
      · skip
        have r8 : R32 (-2147483648) (-1) k2 := r_lt1 (by decide) (r_top _) (r_n (x := (0 : Int32)) (l := 0) (h := 0) (by decide) (by decide)) c7
        refine tp_nl ?_
        refine tp_nl ?_
        refine tp_nift (d_eq (r_n (x := (0 : Int32)) (l := 0) (h := 0) (by decide) (by decide)) (r_n (x := (0 : Int32)) (l := 0) (h := 0) (by decide) (by decide))) ?_
        refine tp_nl ?_
        refine tp_nl ?_
        refine tp_e (f_X10_refused.eq_1 _ _) ?_
        refine tp_niff (d_ne2 (r_n (x := (1 : Int32)) (l := 1) (h := 1) (by decide) (by decide)) (r_n (x := (0 : Int32)) (l := 0) (h := 0) (by decide) (by decide)) (by decide)) ?_
        refine tp_nl ?_
        refine tp_iff (d_ne2 (r_n (x := (1 : Int32)) (l := 1) (h := 1) (by decide) (by decide)) (r_n (x := (0 : Int32)) (l := 0) (h := 0) (by decide) (by decide)) (by decide)) ?_
        exact tp_s (r_w (l' := 0) (h' := 2) (r_n (x := (1 : Int32)) (l := 1) (h := 1) (by decide) (by decide)) (by decide) (by decide))
      · skip
        have r9 : R32 (0) (2147483647) k2 := r_nlt1 (r_top _) (r_n (x := (0 : Int32)) (l := 0) (h := 0) (by decide) (by decide)) c7
        refine tp_nif (fun c10 => ?_) (fun c10 => ?_)
        · skip
          refine tp_nl ?_
          refine tp_nl ?_
          refine tp_nift (d_eq (r_n (x := (0 : Int32)) (l := 0) (h := 0) (by decide) (by decide)) (r_n (x := (0 : Int32)) (l := 0) (h := 0) (by decide) (by decide))) ?_
          refine tp_nl ?_
          refine tp_nl ?_
          refine tp_e (f_X10_refused.eq_1 _ _) ?_
          refine tp_niff (d_ne2 (r_n (x := (1 : Int32)) (l := 1) (h := 1) (by decide) (by decide)) (r_n (x := (0 : Int32)) (l := 0) (h := 0) (by decide) (by decide)) (by decide)) ?_
          refine tp_nl ?_
          refine tp_iff (d_ne2 (r_n (x := (1 : Int32)) (l := 1) (h := 1) (by decide) (by decide)) (r_n (x := (0 : Int32)) (l := 0) (h := 0) (by decide) (by decide)) (by decide)) ?_
          exact tp_s (r_w (l' := 0) (h' := 2) (r_n (x := (1 : Int32)) (l := 1) (h := 1) (by decide) (by decide)) (by decide) (by decide))
        · skip
          have r11 : R32 (0) (7) (p_p.1 - (1 : Int32)) := r_nlt1 (r_sub (l := -1) (h := 7) h_p_p_1 (r_n (x := (1 : Int32)) (l := 1) (h := 1) (by decide) (by decide)) (by decide) (by decide) (by decide) (by decide)) r9 c10
          have r12 : R32 (0) (7) k2 := r_nlt2 (r_sub (l := -1) (h := 7) h_p_p_1 (r_n (x := (1 : Int32)) (l := 1) (h := 1) (by decide) (by decide)) (by decide) (by decide) (by decide) (by decide)) r9 c10
          refine tp_nl ?_
          refine tp_nl ?_
          refine tp_niff (d_ne2 (r_n (x := (1 : Int32)) (l := 1) (h := 1) (by decide) (by decide)) (r_n (x := (0 : Int32)) (l := 0) (h := 0) (by decide) (by decide)) (by decide)) ?_
          refine tp_nn ?_
          refine tp_e (f_X6_hasBait.eq_1 _ _) ?_
          refine tp_nn ?_
          refine tp_e (f_X10_within.eq_1 _ _ _) ?_
          refine tp_nif (fun c13 => ?_) (fun c13 => ?_)
          · skip
            have r14 : R32 (-2147483648) (-1) k4 := r_lt1 (by decide) (r_top _) (r_n (x := (0 : Int32)) (l := 0) (h := 0) (by decide) (by decide)) c13
            refine tp_nl ?_
            refine tp_nl ?_
            refine tp_nift (d_eq (r_n (x := (0 : Int32)) (l := 0) (h := 0) (by decide) (by decide)) (r_n (x := (0 : Int32)) (l := 0) (h := 0) (by decide) (by decide))) ?_
            refine tp_nl ?_
            refine tp_nl ?_
            refine tp_e (f_X10_refused.eq_1 _ _) ?_
            refine tp_niff (d_ne2 (r_n (x := (1 : Int32)) (l := 1) (h := 1) (by decide) (by decide)) (r_n (x := (0 : Int32)) (l := 0) (h := 0) (by decide) (by decide)) (by decide)) ?_
            refine tp_nl ?_
            refine tp_iff (d_ne2 (r_n (x := (1 : Int32)) (l := 1) (h := 1) (by decide) (by decide)) (r_n (x := (0 : Int32)) (l := 0) (h := 0) (by decide) (by decide)) (by decide)) ?_
            exact tp_s (r_w (l' := 0) (h' := 2) (r_n (x := (1 : Int32)) (l := 1) (h := 1) (by decide) (by decide)) (by decide) (by decide))
          · skip
            have r15 : R32 (0) (2147483647) k4 := r_nlt1 (r_top _) (r_n (x := (0 : Int32)) (l := 0) (h := 0) (by decide) (by decide)) c13
            refine tp_nif (fun c16 => ?_) (fun c16 => ?_)
            · skip
              refine tp_nl ?_
              refine tp_nl ?_
              refine tp_nift (d_eq (r_n (x := (0 : Int32)) (l := 0) (h := 0) (by decide) (by decide)) (r_n (x := (0 : Int32)) (l := 0) (h := 0) (by decide) (by decide))) ?_
              refine tp_nl ?_
              refine tp_nl ?_
              refine tp_e (f_X10_refused.eq_1 _ _) ?_
              refine tp_niff (d_ne2 (r_n (x := (1 : Int32)) (l := 1) (h := 1) (by decide) (by decide)) (r_n (x := (0 : Int32)) (l := 0) (h := 0) (by decide) (by decide)) (by decide)) ?_
              refine tp_nl ?_
              refine tp_iff (d_ne2 (r_n (x := (1 : Int32)) (l := 1) (h := 1) (by decide) (by decide)) (r_n (x := (0 : Int32)) (l := 0) (h := 0) (by decide) (by decide)) (by decide)) ?_
              exact tp_s (r_w (l' := 0) (h' := 2) (r_n (x := (1 : Int32)) (l := 1) (h := 1) (by decide) (by decide)) (by decide) (by decide))
            · skip
              have r17 : R32 (0) (3) (p_p.2.2.2.2.1 - (1 : Int32)) := r_nlt1 (r_sub (l := -1) (h := 3) h_p_p_2_2_2_2_1 (r_n (x := (1 : Int32)) (l := 1) (h := 1) (by decide) (by decide)) (by decide) (by decide) (by decide) (by decide)) r15 c16
              have r18 : R32 (0) (3) k4 := r_nlt2 (r_sub (l := -1) (h := 3) h_p_p_2_2_2_2_1 (r_n (x := (1 : Int32)) (l := 1) (h := 1) (by decide) (by decide)) (by decide) (by decide) (by decide) (by decide)) r15 c16
              refine tp_nl ?_
              refine tp_nl ?_
              refine tp_niff (d_ne2 (r_n (x := (1 : Int32)) (l := 1) (h := 1) (by decide) (by decide)) (r_n (x := (0 : Int32)) (l := 0) (h := 0) (by decide) (by decide)) (by decide)) ?_
              refine tp_nn ?_
              refine tp_e (f_X10_within.eq_1 _ _ _) ?_
              refine tp_nif (fun c19 => ?_) (fun c19 => ?_)
              · skip
                have r20 : R32 (-2147483648) (0) k3 := r_lt1 (by decide) (r_top _) (r_n (x := (1 : Int32)) (l := 1) (h := 1) (by decide) (by decide)) c19
                refine tp_nl ?_
                refine tp_nift (d_eq (r_n (x := (0 : Int32)) (l := 0) (h := 0) (by decide) (by decide)) (r_n (x := (0 : Int32)) (l := 0) (h := 0) (by decide) (by decide))) ?_
                refine tp_nl ?_
                refine tp_nl ?_
                refine tp_e (f_X10_refused.eq_1 _ _) ?_
                refine tp_niff (d_ne2 (r_n (x := (2 : Int32)) (l := 2) (h := 2) (by decide) (by decide)) (r_n (x := (0 : Int32)) (l := 0) (h := 0) (by decide) (by decide)) (by decide)) ?_
                refine tp_nl ?_
                refine tp_iff (d_ne2 (r_n (x := (1 : Int32)) (l := 1) (h := 1) (by decide) (by decide)) (r_n (x := (0 : Int32)) (l := 0) (h := 0) (by decide) (by decide)) (by decide)) ?_
                exact tp_s (r_w (l' := 0) (h' := 2) (r_n (x := (2 : Int32)) (l := 2) (h := 2) (by decide) (by decide)) (by decide) (by decide))
              · skip
                have r21 : R32 (1) (2147483647) k3 := r_nlt1 (r_top _) (r_n (x := (1 : Int32)) (l := 1) (h := 1) (by decide) (by decide)) c19
                refine tp_nif (fun c22 => ?_) (fun c22 => ?_)
                · skip
                  refine tp_nl ?_
                  refine tp_nift (d_eq (r_n (x := (0 : Int32)) (l := 0) (h := 0) (by decide) (by decide)) (r_n (x := (0 : Int32)) (l := 0) (h := 0) (by decide) (by decide))) ?_
                  refine tp_nl ?_
                  refine tp_nl ?_
                  refine tp_e (f_X10_refused.eq_1 _ _) ?_
                  refine tp_niff (d_ne2 (r_n (x := (2 : Int32)) (l := 2) (h := 2) (by decide) (by decide)) (r_n (x := (0 : Int32)) (l := 0) (h := 0) (by decide) (by decide)) (by decide)) ?_
                  refine tp_nl ?_
                  refine tp_iff (d_ne2 (r_n (x := (1 : Int32)) (l := 1) (h := 1) (by decide) (by decide)) (r_n (x := (0 : Int32)) (l := 0) (h := 0) (by decide) (by decide)) (by decide)) ?_
                  exact tp_s (r_w (l' := 0) (h' := 2) (r_n (x := (2 : Int32)) (l := 2) (h := 2) (by decide) (by decide)) (by decide) (by decide))
                · skip
                  have r23 : R32 (1) (9) p_p.2.1 := r_nlt1 h_p_p_2_1 r21 c22
                  have r24 : R32 (1) (9) k3 := r_nlt2 h_p_p_2_1 r21 c22
                  refine tp_nl ?_
                  refine tp_niff (d_ne2 (r_n (x := (1 : Int32)) (l := 1) (h := 1) (by decide) (by decide)) (r_n (x := (0 : Int32)) (l := 0) (h := 0) (by decide) (by decide)) (by decide)) ?_
                  refine tp_nl ?_
                  refine tp_nl ?_
                  refine tp_e (f_X10_refused.eq_1 _ _) ?_
                  refine tp_nift (d_eq (r_n (x := (0 : Int32)) (l := 0) (h := 0) (by decide) (by decide)) (r_n (x := (0 : Int32)) (l := 0) (h := 0) (by decide) (by decide))) ?_
                  refine tp_nl ?_
                  refine tp_ift (d_eq (r_n (x := (0 : Int32)) (l := 0) (h := 0) (by decide) (by decide)) (r_n (x := (0 : Int32)) (l := 0) (h := 0) (by decide) (by decide))) ?_
                  refine tp_e (f_X10_question.eq_1 _ _ _) ?_
                  refine tp_n (P := fun z => R32 (10) (793) z) (r_add (l := 10) (h := 793) (r_add (l := 10) (h := 790) (r_mul (l := 0) (h := 700) (r_n (x := (100 : Int32)) (l := 100) (h := 100) (by decide) (by decide)) r12 (by decide) (by decide) (by decide) (by decide) (by decide)) (r_mul (l := 10) (h := 90) (r_n (x := (10 : Int32)) (l := 10) (h := 10) (by decide) (by decide)) r24 (by decide) (by decide) (by decide) (by decide) (by decide)) (by decide) (by decide) (by decide) (by decide)) r18 (by decide) (by decide) (by decide) (by decide)) (fun o27 h25 => ?_)
                  refine tp_b (t_f_X6_wishFor r6 h_p_p_1 (r_w (l' := 0) (h' := 9) r23 (by decide) (by decide)) h_p_p_2_2_2_2_1 h_p_p_2_2_2_2_2_1 h_p_p_2_2_2_2_2_2_1 h_p_p_2_2_2_2_2_2_2_1) (fun o30 h26 => ?_)
                  exact tp_s (r_w (l' := 0) (h' := 2) (r_n (x := (0 : Int32)) (l := 0) (h := 0) (by decide) (by decide)) (by decide) (by decide))
theorem t_f_X5_chance_J60 {k8_ : Int32 → Int64 → Option Int64} {v8_l6 : Int32} {v60_l4 : Int64} {N8 : Nat} (hk8 : ∀ (v8_l6 : Int32) (v8_l4 : Int64), R32 (0) (6) v8_l6 → (6 : Int) - v8_l6.toInt < (N8 : Nat) → TotP (k8_ v8_l6 v8_l4) (fun (r : Int64) => True)) (hm8 : (6 : Int) - v8_l6.toInt < ((N8 + 1 : Nat) : Int)) (h_v8_l6 : R32 (0) (5) v8_l6) : TotP (f_X5_chance_J60 k8_ v8_l6 v60_l4) (fun (r : Int64) => True) := by
  unfold f_X5_chance_J60
  exact hk8 _ _ (r_w (l' := 0) (h' := 6) (r_add (l := 1) (h := 6) h_v8_l6 (r_n (x := (1 : Int32)) (l := 1) (h := 1) (by decide) (by decide)) (by decide) (by decide) (by decide) (by decide)) (by decide) (by decide)) (ms_up (y := (1 : Int32)) h_v8_l6 (by decide) (by decide) (by decide) hm8)
theorem t_f_X5_chance_L8 {k2 : Int32} {k3 : Int32} {p_p : TX6_p} {n_n : TX4_n} (h_k3 : R32 (-1) (899) k3) (h_p_p_1 : R32 (0) (8) p_p.1) (h_p_p_2_1 : R32 (0) (9) p_p.2.1) (h_p_p_2_2_2_2_1 : R32 (0) (4) p_p.2.2.2.2.1) (h_p_p_2_2_2_2_2_1 : R32 (0) (5) p_p.2.2.2.2.2.1) (h_p_p_2_2_2_2_2_2_1 : R32 (0) (6) p_p.2.2.2.2.2.2.1) (h_p_p_2_2_2_2_2_2_2_1 : R32 (0) (6) p_p.2.2.2.2.2.2.2.1) : ∀ (n : Nat) (v8_l6 : Int32) (v8_l4 : Int64), R32 (0) (6) v8_l6 → (6 : Int) - v8_l6.toInt < (n : Int) → TotP (f_X5_chance_L8 k2 k3 p_p n_n n v8_l6 v8_l4) (fun (r : Int64) => True) := by
  intro n
  induction n with
  | zero =>
    intro v8_l6 v8_l4 h_v8_l6 hm
    exact (ms_0u h_v8_l6 hm).elim
  | succ n ih =>
    intro v8_l6 v8_l4 h_v8_l6 hm
    rw [f_X5_chance_L8]
    refine tp_if (fun c1 => ?_) (fun c1 => ?_)
    · skip
      refine tp_if (fun c2 => ?_) (fun c2 => ?_)
      · skip
        have r3 : R32 (-1) (-1) k2 := r_eq1 (l := -1) (h := -1) (by decide) (by decide) (r_top _) (r_n (x := (-1 : Int32)) (l := -1) (h := -1) (by decide) (by decide)) c2
        exact tp_s trivial
      · skip
        exact tp_s trivial
    · skip
      have r4 : R32 (1) (6) p_p.2.2.2.2.2.2.1 := r_nle1 (by decide) h_p_p_2_2_2_2_2_2_1 h_v8_l6 c1
      have r5 : R32 (0) (5) v8_l6 := r_nle2 (by decide) h_p_p_2_2_2_2_2_2_1 h_v8_l6 c1
      refine tp_g r5 (by decide) (by decide) ?_
      refine tp_if (fun c6 => ?_) (fun c6 => ?_)
      · skip
        have r7 : R32 (0) (0) (n_n.2.2.2.1 (v8_l6).toNatClampNeg) := r_eq1 (l := 0) (h := 0) (by decide) (by decide) (r_top _) (r_n (x := (0 : Int32)) (l := 0) (h := 0) (by decide) (by decide)) c6
        refine tp_b (t_f_X6_wishFor r5 h_p_p_1 h_p_p_2_1 h_p_p_2_2_2_2_1 h_p_p_2_2_2_2_2_1 (r_w (l' := 0) (h' := 6) r4 (by decide) (by decide)) h_p_p_2_2_2_2_2_2_2_1) (fun o37 h8 => ?_)
        refine tp_if (fun c9 => ?_) (fun c9 => ?_)
        · skip
          have r10 : R32 (0) (5) k2 := r_eq2 (l := 0) (h := 5) (by decide) (by decide) r5 (r_top _) c9
          exact tp_s trivial
        · skip
          exact t_f_X5_chance_J60 ih hm r5
      · skip
        exact t_f_X5_chance_J60 ih hm r5
theorem t_f_X5_chance {k2 : Int32} {k3 : Int32} {p_p : TX6_p} {n_n : TX4_n} (h_k3 : R32 (-1) (899) k3) (h_p_p_1 : R32 (0) (8) p_p.1) (h_p_p_2_1 : R32 (0) (9) p_p.2.1) (h_p_p_2_2_2_2_1 : R32 (0) (4) p_p.2.2.2.2.1) (h_p_p_2_2_2_2_2_1 : R32 (0) (5) p_p.2.2.2.2.2.1) (h_p_p_2_2_2_2_2_2_1 : R32 (0) (6) p_p.2.2.2.2.2.2.1) (h_p_p_2_2_2_2_2_2_2_1 : R32 (0) (6) p_p.2.2.2.2.2.2.2.1) : TotP (f_X5_chance k2 k3 p_p n_n) (fun (r : Int64) => True) := by
  unfold f_X5_chance
  exact t_f_X5_chance_L8 h_k3 h_p_p_1 h_p_p_2_1 h_p_p_2_2_2_2_1 h_p_p_2_2_2_2_2_1 h_p_p_2_2_2_2_2_2_1 h_p_p_2_2_2_2_2_2_2_1 FU _ _ (r_w (l' := 0) (h' := 6) (r_n (x := (0 : Int32)) (l := 0) (h := 0) (by decide) (by decide)) (by decide) (by decide)) (fu_up (r_w (l' := 0) (h' := 6) (r_n (x := (0 : Int32)) (l := 0) (h := 0) (by decide) (by decide)) (by decide) (by decide)) (by decide))
theorem t_f_X5_commonPart_J45 {v9_l4 : Int64} : TotP (f_X5_commonPart_J45 v9_l4) (fun (r : Int64) => True) := by
  unfold f_X5_commonPart_J45
  exact tp_s trivial
theorem t_f_X5_commonPart_L9 : ∀ (n : Nat) (v9_l8 : Int32) (v9_l6 : Int64) (v9_l4 : Int64), R32 (0) (1000) v9_l8 → (1000 : Int) - v9_l8.toInt < (n : Int) → TotP (f_X5_commonPart_L9 n v9_l8 v9_l6 v9_l4) (fun (r : Int64) => True) := by
  intro n
  induction n with
  | zero =>
    intro v9_l8 v9_l6 v9_l4 h_v9_l8 hm
    exact (ms_0u h_v9_l8 hm).elim
  | succ n ih =>
    intro v9_l8 v9_l6 v9_l4 h_v9_l8 hm
    rw [f_X5_commonPart_L9]
    refine tp_if (fun c1 => ?_) (fun c1 => ?_)
    · skip
      have r2 : R32 (1000) (1000) v9_l8 := r_le2 (r_n (x := (1000 : Int32)) (l := 1000) (h := 1000) (by decide) (by decide)) h_v9_l8 c1
      exact t_f_X5_commonPart_J45 
    · skip
      have r3 : R32 (0) (999) v9_l8 := r_nle2 (by decide) (r_n (x := (1000 : Int32)) (l := 1000) (h := 1000) (by decide) (by decide)) h_v9_l8 c1
      refine tp_if (fun c4 => ?_) (fun c4 => ?_)
      · skip
        have r5 : R32 (0) (0) (lg_cmp v9_l6 (0 : Int64)) := r_eq1 (l := 0) (h := 0) (by decide) (by decide) (r_top _) (r_n (x := (0 : Int32)) (l := 0) (h := 0) (by decide) (by decide)) c4
        exact t_f_X5_commonPart_J45 
      · skip
        refine tp_zl (lg_ne rfl c4) ?_
        exact ih _ _ _ (r_w (l' := 0) (h' := 1000) (r_add (l := 1) (h := 1000) r3 (r_n (x := (1 : Int32)) (l := 1) (h := 1) (by decide) (by decide)) (by decide) (by decide) (by decide) (by decide)) (by decide) (by decide)) (ms_up (y := (1 : Int32)) r3 (by decide) (by decide) (by decide) hm)
theorem t_f_X5_commonPart {k0 : Int64} {k1 : Int64} : TotP (f_X5_commonPart k0 k1) (fun (r : Int64) => True) := by
  unfold f_X5_commonPart
  exact t_f_X5_commonPart_L9  FU _ _ _ (r_w (l' := 0) (h' := 1000) (r_n (x := (0 : Int32)) (l := 0) (h := 0) (by decide) (by decide)) (by decide) (by decide)) (fu_up (r_w (l' := 0) (h' := 1000) (r_n (x := (0 : Int32)) (l := 0) (h := 0) (by decide) (by decide)) (by decide) (by decide)) (by decide))
theorem t_f_X5_term {k0 : Int64} {k1 : Int32} : TotP (f_X5_term k0 k1) (fun (r : Int64) => True) := by
  unfold f_X5_term
  refine tp_b (t_f_X5_commonPart ) (fun o4 h1 => ?_)
  refine tp_if (fun c2 => ?_) (fun c2 => ?_)
  · skip
    have r3 : R32 (0) (0) (lg_cmp o4 (0 : Int64)) := r_eq1 (l := 0) (h := 0) (by decide) (by decide) (r_top _) (r_n (x := (0 : Int32)) (l := 0) (h := 0) (by decide) (by decide)) c2
    exact tp_s trivial
  · skip
    refine tp_if (fun c4 => ?_) (fun c4 => ?_)
    · skip
      have r5 : R32 (0) (0) k1 := r_eq1 (l := 0) (h := 0) (by decide) (by decide) (r_top _) (r_n (x := (0 : Int32)) (l := 0) (h := 0) (by decide) (by decide)) c4
      refine tp_u (f_X5_term_J27.eq_1 _ _) ?_
      refine tp_zl (lg_ne rfl c2) ?_
      exact tp_s trivial
    · skip
      refine tp_u (f_X5_term_J27.eq_1 _ _) ?_
      refine tp_zl (lg_ne rfl c2) ?_
      exact tp_s trivial
theorem t_f_X10_takes {k1 : Int32} {k2 : Int32} {k3 : Int32} {k4 : Int32} {k5 : Int32} {x_x : TX10_x} {p_p : TX6_p} {n_n : TX4_n} (h_p_p_1 : R32 (0) (8) p_p.1) (h_p_p_2_1 : R32 (0) (9) p_p.2.1) (h_p_p_2_2_2_2_1 : R32 (0) (4) p_p.2.2.2.2.1) (h_p_p_2_2_2_2_2_1 : R32 (0) (5) p_p.2.2.2.2.2.1) (h_p_p_2_2_2_2_2_2_1 : R32 (0) (6) p_p.2.2.2.2.2.2.1) (h_p_p_2_2_2_2_2_2_2_1 : R32 (0) (6) p_p.2.2.2.2.2.2.2.1) : TotP (f_X10_takes k1 k2 k3 k4 k5 x_x p_p n_n) (fun (r : Int64 × TX10_x) => R32 (0) (2) r.2.1) := by
  unfold f_X10_takes
  refine tp_e (f_X10_wishTrouble.eq_1 _ _ _ _ _) ?_
  refine tp_nn ?_
  refine tp_e (f_X10_answerTrouble.eq_1 _ _) ?_
  refine tp_nn ?_
  refine tp_e (f_X6_hasAnswer.eq_1 _ _) ?_
  refine tp_nn ?_
  refine tp_e (f_X10_within.eq_1 _ _ _) ?_
  refine tp_nif (fun c1 => ?_) (fun c1 => ?_)
  · skip
    have r2 : R32 (-2147483648) (-1) k1 := r_lt1 (by decide) (r_top _) (r_n (x := (0 : Int32)) (l := 0) (h := 0) (by decide) (by decide)) c1
    refine tp_nl ?_
    refine tp_nl ?_
    refine tp_nift (d_eq (r_n (x := (0 : Int32)) (l := 0) (h := 0) (by decide) (by decide)) (r_n (x := (0 : Int32)) (l := 0) (h := 0) (by decide) (by decide))) ?_
    refine tp_nl ?_
    refine tp_niff (d_ne2 (r_n (x := (1 : Int32)) (l := 1) (h := 1) (by decide) (by decide)) (r_n (x := (0 : Int32)) (l := 0) (h := 0) (by decide) (by decide)) (by decide)) ?_
    refine tp_nl ?_
    refine tp_e (f_X10_refused.eq_1 _ _) ?_
    refine tp_niff (d_ne2 (r_n (x := (1 : Int32)) (l := 1) (h := 1) (by decide) (by decide)) (r_n (x := (0 : Int32)) (l := 0) (h := 0) (by decide) (by decide)) (by decide)) ?_
    refine tp_nl ?_
    refine tp_iff (d_ne2 (r_n (x := (1 : Int32)) (l := 1) (h := 1) (by decide) (by decide)) (r_n (x := (0 : Int32)) (l := 0) (h := 0) (by decide) (by decide)) (by decide)) ?_
    exact tp_s (r_w (l' := 0) (h' := 2) (r_n (x := (1 : Int32)) (l := 1) (h := 1) (by decide) (by decide)) (by decide) (by decide))
  · skip
    have r3 : R32 (0) (2147483647) k1 := r_nlt1 (r_top _) (r_n (x := (0 : Int32)) (l := 0) (h := 0) (by decide) (by decide)) c1
    refine tp_nif (fun c4 => ?_) (fun c4 => ?_)
    · skip
      refine tp_nl ?_
      refine tp_nl ?_
      refine tp_nift (d_eq (r_n (x := (0 : Int32)) (l := 0) (h := 0) (by decide) (by decide)) (r_n (x := (0 : Int32)) (l := 0) (h := 0) (by decide) (by decide))) ?_
      refine tp_nl ?_
      refine tp_niff (d_ne2 (r_n (x := (1 : Int32)) (l := 1) (h := 1) (by decide) (by decide)) (r_n (x := (0 : Int32)) (l := 0) (h := 0) (by decide) (by decide)) (by decide)) ?_
      refine tp_nl ?_
      refine tp_e (f_X10_refused.eq_1 _ _) ?_
      refine tp_niff (d_ne2 (r_n (x := (1 : Int32)) (l := 1) (h := 1) (by decide) (by decide)) (r_n (x := (0 : Int32)) (l := 0) (h := 0) (by decide) (by decide)) (by decide)) ?_
      refine tp_nl ?_
      refine tp_iff (d_ne2 (r_n (x := (1 : Int32)) (l := 1) (h := 1) (by decide) (by decide)) (r_n (x := (0 : Int32)) (l := 0) (h := 0) (by decide) (by decide)) (by decide)) ?_
      exact tp_s (r_w (l' := 0) (h' := 2) (r_n (x := (1 : Int32)) (l := 1) (h := 1) (by decide) (by decide)) (by decide) (by decide))
    · skip
      have r5 : R32 (0) (5) (p_p.2.2.2.2.2.2.1 - (1 : Int32)) := r_nlt1 (r_sub (l := -1) (h := 5) h_p_p_2_2_2_2_2_2_1 (r_n (x := (1 : Int32)) (l := 1) (h := 1) (by decide) (by decide)) (by decide) (by decide) (by decide) (by decide)) r3 c4
      have r6 : R32 (0) (5) k1 := r_nlt2 (r_sub (l := -1) (h := 5) h_p_p_2_2_2_2_2_2_1 (r_n (x := (1 : Int32)) (l := 1) (h := 1) (by decide) (by decide)) (by decide) (by decide) (by decide) (by decide)) r3 c4
      refine tp_nl ?_
      refine tp_nl ?_
      refine tp_niff (d_ne2 (r_n (x := (1 : Int32)) (l := 1) (h := 1) (by decide) (by decide)) (r_n (x := (0 : Int32)) (l := 0) (h := 0) (by decide) (by decide)) (by decide)) ?_
      refine tp_nl ?_
      refine tp_nift (d_eq (r_n (x := (0 : Int32)) (l := 0) (h := 0) (by decide) (by decide)) (r_n (x := (0 : Int32)) (l := 0) (h := 0) (by decide) (by decide))) ?_
      refine tp_nn ?_
      refine tp_e (f_X10_questionTrouble.eq_1 _ _ _ _) ?_
      refine tp_nn ?_
      refine tp_e (f_X6_hasSpot.eq_1 _ _) ?_
      refine tp_nn ?_
      refine tp_e (f_X10_within.eq_1 _ _ _) ?_
      refine tp_nif (fun c7 => ?_) (fun c7 => ?_)
      · skip
        have r8 : R32 (-2147483648) (-1) k2 := r_lt1 (by decide) (r_top _) (r_n (x := (0 : Int32)) (l := 0) (h := 0) (by decide) (by decide)) c7
        refine tp_nl ?_
        refine tp_nl ?_
        refine tp_nift (d_eq (r_n (x := (0 : Int32)) (l := 0) (h := 0) (by decide) (by decide)) (r_n (x := (0 : Int32)) (l := 0) (h := 0) (by decide) (by decide))) ?_
        refine tp_nl ?_
        refine tp_nl ?_
        refine tp_e (f_X10_refused.eq_1 _ _) ?_
        refine tp_niff (d_ne2 (r_n (x := (1 : Int32)) (l := 1) (h := 1) (by decide) (by decide)) (r_n (x := (0 : Int32)) (l := 0) (h := 0) (by decide) (by decide)) (by decide)) ?_
        refine tp_nl ?_
        refine tp_iff (d_ne2 (r_n (x := (1 : Int32)) (l := 1) (h := 1) (by decide) (by decide)) (r_n (x := (0 : Int32)) (l := 0) (h := 0) (by decide) (by decide)) (by decide)) ?_
        exact tp_s (r_w (l' := 0) (h' := 2) (r_n (x := (1 : Int32)) (l := 1) (h := 1) (by decide) (by decide)) (by decide) (by decide))
      · skip
        have r9 : R32 (0) (2147483647) k2 := r_nlt1 (r_top _) (r_n (x := (0 : Int32)) (l := 0) (h := 0) (by decide) (by decide)) c7
        refine tp_nif (fun c10 => ?_) (fun c10 => ?_)
        · skip
          refine tp_nl ?_
          refine tp_nl ?_
          refine tp_nift (d_eq (r_n (x := (0 : Int32)) (l := 0) (h := 0) (by decide) (by decide)) (r_n (x := (0 : Int32)) (l := 0) (h := 0) (by decide) (by decide))) ?_
          refine tp_nl ?_
          refine tp_nl ?_
          refine tp_e (f_X10_refused.eq_1 _ _) ?_
          refine tp_niff (d_ne2 (r_n (x := (1 : Int32)) (l := 1) (h := 1) (by decide) (by decide)) (r_n (x := (0 : Int32)) (l := 0) (h := 0) (by decide) (by decide)) (by decide)) ?_
          refine tp_nl ?_
          refine tp_iff (d_ne2 (r_n (x := (1 : Int32)) (l := 1) (h := 1) (by decide) (by decide)) (r_n (x := (0 : Int32)) (l := 0) (h := 0) (by decide) (by decide)) (by decide)) ?_
          exact tp_s (r_w (l' := 0) (h' := 2) (r_n (x := (1 : Int32)) (l := 1) (h := 1) (by decide) (by decide)) (by decide) (by decide))
        · skip
          have r11 : R32 (0) (7) (p_p.1 - (1 : Int32)) := r_nlt1 (r_sub (l := -1) (h := 7) h_p_p_1 (r_n (x := (1 : Int32)) (l := 1) (h := 1) (by decide) (by decide)) (by decide) (by decide) (by decide) (by decide)) r9 c10
          have r12 : R32 (0) (7) k2 := r_nlt2 (r_sub (l := -1) (h := 7) h_p_p_1 (r_n (x := (1 : Int32)) (l := 1) (h := 1) (by decide) (by decide)) (by decide) (by decide) (by decide) (by decide)) r9 c10
          refine tp_nl ?_
          refine tp_nl ?_
          refine tp_niff (d_ne2 (r_n (x := (1 : Int32)) (l := 1) (h := 1) (by decide) (by decide)) (r_n (x := (0 : Int32)) (l := 0) (h := 0) (by decide) (by decide)) (by decide)) ?_
          refine tp_nn ?_
          refine tp_e (f_X6_hasBait.eq_1 _ _) ?_
          refine tp_nn ?_
          refine tp_e (f_X10_within.eq_1 _ _ _) ?_
          refine tp_nif (fun c13 => ?_) (fun c13 => ?_)
          · skip
            have r14 : R32 (-2147483648) (-1) k4 := r_lt1 (by decide) (r_top _) (r_n (x := (0 : Int32)) (l := 0) (h := 0) (by decide) (by decide)) c13
            refine tp_nl ?_
            refine tp_nl ?_
            refine tp_nift (d_eq (r_n (x := (0 : Int32)) (l := 0) (h := 0) (by decide) (by decide)) (r_n (x := (0 : Int32)) (l := 0) (h := 0) (by decide) (by decide))) ?_
            refine tp_nl ?_
            refine tp_nl ?_
            refine tp_e (f_X10_refused.eq_1 _ _) ?_
            refine tp_niff (d_ne2 (r_n (x := (1 : Int32)) (l := 1) (h := 1) (by decide) (by decide)) (r_n (x := (0 : Int32)) (l := 0) (h := 0) (by decide) (by decide)) (by decide)) ?_
            refine tp_nl ?_
            refine tp_iff (d_ne2 (r_n (x := (1 : Int32)) (l := 1) (h := 1) (by decide) (by decide)) (r_n (x := (0 : Int32)) (l := 0) (h := 0) (by decide) (by decide)) (by decide)) ?_
            exact tp_s (r_w (l' := 0) (h' := 2) (r_n (x := (1 : Int32)) (l := 1) (h := 1) (by decide) (by decide)) (by decide) (by decide))
          · skip
            have r15 : R32 (0) (2147483647) k4 := r_nlt1 (r_top _) (r_n (x := (0 : Int32)) (l := 0) (h := 0) (by decide) (by decide)) c13
            refine tp_nif (fun c16 => ?_) (fun c16 => ?_)
            · skip
              refine tp_nl ?_
              refine tp_nl ?_
              refine tp_nift (d_eq (r_n (x := (0 : Int32)) (l := 0) (h := 0) (by decide) (by decide)) (r_n (x := (0 : Int32)) (l := 0) (h := 0) (by decide) (by decide))) ?_
              refine tp_nl ?_
              refine tp_nl ?_
              refine tp_e (f_X10_refused.eq_1 _ _) ?_
              refine tp_niff (d_ne2 (r_n (x := (1 : Int32)) (l := 1) (h := 1) (by decide) (by decide)) (r_n (x := (0 : Int32)) (l := 0) (h := 0) (by decide) (by decide)) (by decide)) ?_
              refine tp_nl ?_
              refine tp_iff (d_ne2 (r_n (x := (1 : Int32)) (l := 1) (h := 1) (by decide) (by decide)) (r_n (x := (0 : Int32)) (l := 0) (h := 0) (by decide) (by decide)) (by decide)) ?_
              exact tp_s (r_w (l' := 0) (h' := 2) (r_n (x := (1 : Int32)) (l := 1) (h := 1) (by decide) (by decide)) (by decide) (by decide))
            · skip
              have r17 : R32 (0) (3) (p_p.2.2.2.2.1 - (1 : Int32)) := r_nlt1 (r_sub (l := -1) (h := 3) h_p_p_2_2_2_2_1 (r_n (x := (1 : Int32)) (l := 1) (h := 1) (by decide) (by decide)) (by decide) (by decide) (by decide) (by decide)) r15 c16
              have r18 : R32 (0) (3) k4 := r_nlt2 (r_sub (l := -1) (h := 3) h_p_p_2_2_2_2_1 (r_n (x := (1 : Int32)) (l := 1) (h := 1) (by decide) (by decide)) (by decide) (by decide) (by decide) (by decide)) r15 c16
              refine tp_nl ?_
              refine tp_nl ?_
              refine tp_niff (d_ne2 (r_n (x := (1 : Int32)) (l := 1) (h := 1) (by decide) (by decide)) (r_n (x := (0 : Int32)) (l := 0) (h := 0) (by decide) (by decide)) (by decide)) ?_
              refine tp_nn ?_
              refine tp_e (f_X10_within.eq_1 _ _ _) ?_
              refine tp_nif (fun c19 => ?_) (fun c19 => ?_)
              · skip
                have r20 : R32 (-2147483648) (0) k3 := r_lt1 (by decide) (r_top _) (r_n (x := (1 : Int32)) (l := 1) (h := 1) (by decide) (by decide)) c19
                refine tp_nl ?_
                refine tp_nift (d_eq (r_n (x := (0 : Int32)) (l := 0) (h := 0) (by decide) (by decide)) (r_n (x := (0 : Int32)) (l := 0) (h := 0) (by decide) (by decide))) ?_
                refine tp_nl ?_
                refine tp_nl ?_
                refine tp_e (f_X10_refused.eq_1 _ _) ?_
                refine tp_niff (d_ne2 (r_n (x := (2 : Int32)) (l := 2) (h := 2) (by decide) (by decide)) (r_n (x := (0 : Int32)) (l := 0) (h := 0) (by decide) (by decide)) (by decide)) ?_
                refine tp_nl ?_
                refine tp_iff (d_ne2 (r_n (x := (1 : Int32)) (l := 1) (h := 1) (by decide) (by decide)) (r_n (x := (0 : Int32)) (l := 0) (h := 0) (by decide) (by decide)) (by decide)) ?_
                exact tp_s (r_w (l' := 0) (h' := 2) (r_n (x := (2 : Int32)) (l := 2) (h := 2) (by decide) (by decide)) (by decide) (by decide))
              · skip
                have r21 : R32 (1) (2147483647) k3 := r_nlt1 (r_top _) (r_n (x := (1 : Int32)) (l := 1) (h := 1) (by decide) (by decide)) c19
                refine tp_nif (fun c22 => ?_) (fun c22 => ?_)
                · skip
                  refine tp_nl ?_
                  refine tp_nift (d_eq (r_n (x := (0 : Int32)) (l := 0) (h := 0) (by decide) (by decide)) (r_n (x := (0 : Int32)) (l := 0) (h := 0) (by decide) (by decide))) ?_
                  refine tp_nl ?_
                  refine tp_nl ?_
                  refine tp_e (f_X10_refused.eq_1 _ _) ?_
                  refine tp_niff (d_ne2 (r_n (x := (2 : Int32)) (l := 2) (h := 2) (by decide) (by decide)) (r_n (x := (0 : Int32)) (l := 0) (h := 0) (by decide) (by decide)) (by decide)) ?_
                  refine tp_nl ?_
                  refine tp_iff (d_ne2 (r_n (x := (1 : Int32)) (l := 1) (h := 1) (by decide) (by decide)) (r_n (x := (0 : Int32)) (l := 0) (h := 0) (by decide) (by decide)) (by decide)) ?_
                  exact tp_s (r_w (l' := 0) (h' := 2) (r_n (x := (2 : Int32)) (l := 2) (h := 2) (by decide) (by decide)) (by decide) (by decide))
                · skip
                  have r23 : R32 (1) (9) p_p.2.1 := r_nlt1 h_p_p_2_1 r21 c22
                  have r24 : R32 (1) (9) k3 := r_nlt2 h_p_p_2_1 r21 c22
                  refine tp_nl ?_
                  refine tp_niff (d_ne2 (r_n (x := (1 : Int32)) (l := 1) (h := 1) (by decide) (by decide)) (r_n (x := (0 : Int32)) (l := 0) (h := 0) (by decide) (by decide)) (by decide)) ?_
                  refine tp_nl ?_
                  refine tp_nl ?_
                  refine tp_e (f_X10_refused.eq_1 _ _) ?_
                  refine tp_nift (d_eq (r_n (x := (0 : Int32)) (l := 0) (h := 0) (by decide) (by decide)) (r_n (x := (0 : Int32)) (l := 0) (h := 0) (by decide) (by decide))) ?_
                  refine tp_nl ?_
                  refine tp_ift (d_eq (r_n (x := (0 : Int32)) (l := 0) (h := 0) (by decide) (by decide)) (r_n (x := (0 : Int32)) (l := 0) (h := 0) (by decide) (by decide))) ?_
                  refine tp_e (f_X10_question.eq_1 _ _ _) ?_
                  refine tp_n (P := fun z => R32 (10) (793) z) (r_add (l := 10) (h := 793) (r_add (l := 10) (h := 790) (r_mul (l := 0) (h := 700) (r_n (x := (100 : Int32)) (l := 100) (h := 100) (by decide) (by decide)) r12 (by decide) (by decide) (by decide) (by decide) (by decide)) (r_mul (l := 10) (h := 90) (r_n (x := (10 : Int32)) (l := 10) (h := 10) (by decide) (by decide)) r24 (by decide) (by decide) (by decide) (by decide) (by decide)) (by decide) (by decide) (by decide) (by decide)) r18 (by decide) (by decide) (by decide) (by decide)) (fun o33 h25 => ?_)
                  refine tp_b (t_f_X5_chance (r_w (l' := -1) (h' := 899) h25 (by decide) (by decide)) h_p_p_1 (r_w (l' := 0) (h' := 9) r23 (by decide) (by decide)) h_p_p_2_2_2_2_1 h_p_p_2_2_2_2_2_1 h_p_p_2_2_2_2_2_2_1 h_p_p_2_2_2_2_2_2_2_1) (fun o36 h26 => ?_)
                  refine tp_b (t_f_X5_term ) (fun o41 h27 => ?_)
                  exact tp_s (r_w (l' := 0) (h' := 2) (r_n (x := (0 : Int32)) (l := 0) (h := 0) (by decide) (by decide)) (by decide) (by decide))
theorem t_f_X10_nothing {k1 : Int32} {k2 : Int32} {k3 : Int32} {k4 : Int32} {x_x : TX10_x} {p_p : TX6_p} {n_n : TX4_n} (h_p_p_1 : R32 (0) (8) p_p.1) (h_p_p_2_1 : R32 (0) (9) p_p.2.1) (h_p_p_2_2_2_2_1 : R32 (0) (4) p_p.2.2.2.2.1) (h_p_p_2_2_2_2_2_1 : R32 (0) (5) p_p.2.2.2.2.2.1) (h_p_p_2_2_2_2_2_2_1 : R32 (0) (6) p_p.2.2.2.2.2.2.1) (h_p_p_2_2_2_2_2_2_2_1 : R32 (0) (6) p_p.2.2.2.2.2.2.2.1) : TotP (f_X10_nothing k1 k2 k3 k4 x_x p_p n_n) (fun (r : Int64 × TX10_x) => R32 (0) (2) r.2.1) := by
  unfold f_X10_nothing
  refine tp_e (f_X10_questionTrouble.eq_1 _ _ _ _) ?_
  refine tp_nn ?_
  refine tp_e (f_X6_hasSpot.eq_1 _ _) ?_
  refine tp_nn ?_
  refine tp_e (f_X10_within.eq_1 _ _ _) ?_
  refine tp_nif (fun c1 => ?_) (fun c1 => ?_)
  · skip
    have r2 : R32 (-2147483648) (-1) k1 := r_lt1 (by decide) (r_top _) (r_n (x := (0 : Int32)) (l := 0) (h := 0) (by decide) (by decide)) c1
    refine tp_nl ?_
    refine tp_nl ?_
    refine tp_nift (d_eq (r_n (x := (0 : Int32)) (l := 0) (h := 0) (by decide) (by decide)) (r_n (x := (0 : Int32)) (l := 0) (h := 0) (by decide) (by decide))) ?_
    refine tp_nl ?_
    refine tp_e (f_X10_refused.eq_1 _ _) ?_
    refine tp_niff (d_ne2 (r_n (x := (1 : Int32)) (l := 1) (h := 1) (by decide) (by decide)) (r_n (x := (0 : Int32)) (l := 0) (h := 0) (by decide) (by decide)) (by decide)) ?_
    refine tp_nl ?_
    refine tp_iff (d_ne2 (r_n (x := (1 : Int32)) (l := 1) (h := 1) (by decide) (by decide)) (r_n (x := (0 : Int32)) (l := 0) (h := 0) (by decide) (by decide)) (by decide)) ?_
    exact tp_s (r_w (l' := 0) (h' := 2) (r_n (x := (1 : Int32)) (l := 1) (h := 1) (by decide) (by decide)) (by decide) (by decide))
  · skip
    have r3 : R32 (0) (2147483647) k1 := r_nlt1 (r_top _) (r_n (x := (0 : Int32)) (l := 0) (h := 0) (by decide) (by decide)) c1
    refine tp_nif (fun c4 => ?_) (fun c4 => ?_)
    · skip
      refine tp_nl ?_
      refine tp_nl ?_
      refine tp_nift (d_eq (r_n (x := (0 : Int32)) (l := 0) (h := 0) (by decide) (by decide)) (r_n (x := (0 : Int32)) (l := 0) (h := 0) (by decide) (by decide))) ?_
      refine tp_nl ?_
      refine tp_e (f_X10_refused.eq_1 _ _) ?_
      refine tp_niff (d_ne2 (r_n (x := (1 : Int32)) (l := 1) (h := 1) (by decide) (by decide)) (r_n (x := (0 : Int32)) (l := 0) (h := 0) (by decide) (by decide)) (by decide)) ?_
      refine tp_nl ?_
      refine tp_iff (d_ne2 (r_n (x := (1 : Int32)) (l := 1) (h := 1) (by decide) (by decide)) (r_n (x := (0 : Int32)) (l := 0) (h := 0) (by decide) (by decide)) (by decide)) ?_
      exact tp_s (r_w (l' := 0) (h' := 2) (r_n (x := (1 : Int32)) (l := 1) (h := 1) (by decide) (by decide)) (by decide) (by decide))
    · skip
      have r5 : R32 (0) (7) (p_p.1 - (1 : Int32)) := r_nlt1 (r_sub (l := -1) (h := 7) h_p_p_1 (r_n (x := (1 : Int32)) (l := 1) (h := 1) (by decide) (by decide)) (by decide) (by decide) (by decide) (by decide)) r3 c4
      have r6 : R32 (0) (7) k1 := r_nlt2 (r_sub (l := -1) (h := 7) h_p_p_1 (r_n (x := (1 : Int32)) (l := 1) (h := 1) (by decide) (by decide)) (by decide) (by decide) (by decide) (by decide)) r3 c4
      refine tp_nl ?_
      refine tp_nl ?_
      refine tp_niff (d_ne2 (r_n (x := (1 : Int32)) (l := 1) (h := 1) (by decide) (by decide)) (r_n (x := (0 : Int32)) (l := 0) (h := 0) (by decide) (by decide)) (by decide)) ?_
      refine tp_nn ?_
      refine tp_e (f_X6_hasBait.eq_1 _ _) ?_
      refine tp_nn ?_
      refine tp_e (f_X10_within.eq_1 _ _ _) ?_
      refine tp_nif (fun c7 => ?_) (fun c7 => ?_)
      · skip
        have r8 : R32 (-2147483648) (-1) k3 := r_lt1 (by decide) (r_top _) (r_n (x := (0 : Int32)) (l := 0) (h := 0) (by decide) (by decide)) c7
        refine tp_nl ?_
        refine tp_nl ?_
        refine tp_nift (d_eq (r_n (x := (0 : Int32)) (l := 0) (h := 0) (by decide) (by decide)) (r_n (x := (0 : Int32)) (l := 0) (h := 0) (by decide) (by decide))) ?_
        refine tp_nl ?_
        refine tp_e (f_X10_refused.eq_1 _ _) ?_
        refine tp_niff (d_ne2 (r_n (x := (1 : Int32)) (l := 1) (h := 1) (by decide) (by decide)) (r_n (x := (0 : Int32)) (l := 0) (h := 0) (by decide) (by decide)) (by decide)) ?_
        refine tp_nl ?_
        refine tp_iff (d_ne2 (r_n (x := (1 : Int32)) (l := 1) (h := 1) (by decide) (by decide)) (r_n (x := (0 : Int32)) (l := 0) (h := 0) (by decide) (by decide)) (by decide)) ?_
        exact tp_s (r_w (l' := 0) (h' := 2) (r_n (x := (1 : Int32)) (l := 1) (h := 1) (by decide) (by decide)) (by decide) (by decide))
      · skip
        have r9 : R32 (0) (2147483647) k3 := r_nlt1 (r_top _) (r_n (x := (0 : Int32)) (l := 0) (h := 0) (by decide) (by decide)) c7
        refine tp_nif (fun c10 => ?_) (fun c10 => ?_)
        · skip
          refine tp_nl ?_
          refine tp_nl ?_
          refine tp_nift (d_eq (r_n (x := (0 : Int32)) (l := 0) (h := 0) (by decide) (by decide)) (r_n (x := (0 : Int32)) (l := 0) (h := 0) (by decide) (by decide))) ?_
          refine tp_nl ?_
          refine tp_e (f_X10_refused.eq_1 _ _) ?_
          refine tp_niff (d_ne2 (r_n (x := (1 : Int32)) (l := 1) (h := 1) (by decide) (by decide)) (r_n (x := (0 : Int32)) (l := 0) (h := 0) (by decide) (by decide)) (by decide)) ?_
          refine tp_nl ?_
          refine tp_iff (d_ne2 (r_n (x := (1 : Int32)) (l := 1) (h := 1) (by decide) (by decide)) (r_n (x := (0 : Int32)) (l := 0) (h := 0) (by decide) (by decide)) (by decide)) ?_
          exact tp_s (r_w (l' := 0) (h' := 2) (r_n (x := (1 : Int32)) (l := 1) (h := 1) (by decide) (by decide)) (by decide) (by decide))
        · skip
          have r11 : R32 (0) (3) (p_p.2.2.2.2.1 - (1 : Int32)) := r_nlt1 (r_sub (l := -1) (h := 3) h_p_p_2_2_2_2_1 (r_n (x := (1 : Int32)) (l := 1) (h := 1) (by decide) (by decide)) (by decide) (by decide) (by decide) (by decide)) r9 c10
          have r12 : R32 (0) (3) k3 := r_nlt2 (r_sub (l := -1) (h := 3) h_p_p_2_2_2_2_1 (r_n (x := (1 : Int32)) (l := 1) (h := 1) (by decide) (by decide)) (by decide) (by decide) (by decide) (by decide)) r9 c10
          refine tp_nl ?_
          refine tp_nl ?_
          refine tp_niff (d_ne2 (r_n (x := (1 : Int32)) (l := 1) (h := 1) (by decide) (by decide)) (r_n (x := (0 : Int32)) (l := 0) (h := 0) (by decide) (by decide)) (by decide)) ?_
          refine tp_nn ?_
          refine tp_e (f_X10_within.eq_1 _ _ _) ?_
          refine tp_nif (fun c13 => ?_) (fun c13 => ?_)
          · skip
            have r14 : R32 (-2147483648) (0) k2 := r_lt1 (by decide) (r_top _) (r_n (x := (1 : Int32)) (l := 1) (h := 1) (by decide) (by decide)) c13
            refine tp_nl ?_
            refine tp_nift (d_eq (r_n (x := (0 : Int32)) (l := 0) (h := 0) (by decide) (by decide)) (r_n (x := (0 : Int32)) (l := 0) (h := 0) (by decide) (by decide))) ?_
            refine tp_nl ?_
            refine tp_e (f_X10_refused.eq_1 _ _) ?_
            refine tp_niff (d_ne2 (r_n (x := (2 : Int32)) (l := 2) (h := 2) (by decide) (by decide)) (r_n (x := (0 : Int32)) (l := 0) (h := 0) (by decide) (by decide)) (by decide)) ?_
            refine tp_nl ?_
            refine tp_iff (d_ne2 (r_n (x := (1 : Int32)) (l := 1) (h := 1) (by decide) (by decide)) (r_n (x := (0 : Int32)) (l := 0) (h := 0) (by decide) (by decide)) (by decide)) ?_
            exact tp_s (r_w (l' := 0) (h' := 2) (r_n (x := (2 : Int32)) (l := 2) (h := 2) (by decide) (by decide)) (by decide) (by decide))
          · skip
            have r15 : R32 (1) (2147483647) k2 := r_nlt1 (r_top _) (r_n (x := (1 : Int32)) (l := 1) (h := 1) (by decide) (by decide)) c13
            refine tp_nif (fun c16 => ?_) (fun c16 => ?_)
            · skip
              refine tp_nl ?_
              refine tp_nift (d_eq (r_n (x := (0 : Int32)) (l := 0) (h := 0) (by decide) (by decide)) (r_n (x := (0 : Int32)) (l := 0) (h := 0) (by decide) (by decide))) ?_
              refine tp_nl ?_
              refine tp_e (f_X10_refused.eq_1 _ _) ?_
              refine tp_niff (d_ne2 (r_n (x := (2 : Int32)) (l := 2) (h := 2) (by decide) (by decide)) (r_n (x := (0 : Int32)) (l := 0) (h := 0) (by decide) (by decide)) (by decide)) ?_
              refine tp_nl ?_
              refine tp_iff (d_ne2 (r_n (x := (1 : Int32)) (l := 1) (h := 1) (by decide) (by decide)) (r_n (x := (0 : Int32)) (l := 0) (h := 0) (by decide) (by decide)) (by decide)) ?_
              exact tp_s (r_w (l' := 0) (h' := 2) (r_n (x := (2 : Int32)) (l := 2) (h := 2) (by decide) (by decide)) (by decide) (by decide))
            · skip
              have r17 : R32 (1) (9) p_p.2.1 := r_nlt1 h_p_p_2_1 r15 c16
              have r18 : R32 (1) (9) k2 := r_nlt2 h_p_p_2_1 r15 c16
              refine tp_nl ?_
              refine tp_niff (d_ne2 (r_n (x := (1 : Int32)) (l := 1) (h := 1) (by decide) (by decide)) (r_n (x := (0 : Int32)) (l := 0) (h := 0) (by decide) (by decide)) (by decide)) ?_
              refine tp_nl ?_
              refine tp_e (f_X10_refused.eq_1 _ _) ?_
              refine tp_nift (d_eq (r_n (x := (0 : Int32)) (l := 0) (h := 0) (by decide) (by decide)) (r_n (x := (0 : Int32)) (l := 0) (h := 0) (by decide) (by decide))) ?_
              refine tp_nl ?_
              refine tp_ift (d_eq (r_n (x := (0 : Int32)) (l := 0) (h := 0) (by decide) (by decide)) (r_n (x := (0 : Int32)) (l := 0) (h := 0) (by decide) (by decide))) ?_
              refine tp_e (f_X10_question.eq_1 _ _ _) ?_
              refine tp_n (P := fun z => R32 (10) (793) z) (r_add (l := 10) (h := 793) (r_add (l := 10) (h := 790) (r_mul (l := 0) (h := 700) (r_n (x := (100 : Int32)) (l := 100) (h := 100) (by decide) (by decide)) r6 (by decide) (by decide) (by decide) (by decide) (by decide)) (r_mul (l := 10) (h := 90) (r_n (x := (10 : Int32)) (l := 10) (h := 10) (by decide) (by decide)) r18 (by decide) (by decide) (by decide) (by decide) (by decide)) (by decide) (by decide) (by decide) (by decide)) r12 (by decide) (by decide) (by decide) (by decide)) (fun o30 h19 => ?_)
              refine tp_b (t_f_X5_chance (r_w (l' := -1) (h' := 899) h19 (by decide) (by decide)) h_p_p_1 (r_w (l' := 0) (h' := 9) r17 (by decide) (by decide)) h_p_p_2_2_2_2_1 h_p_p_2_2_2_2_2_1 h_p_p_2_2_2_2_2_2_1 h_p_p_2_2_2_2_2_2_2_1) (fun o33 h20 => ?_)
              refine tp_b (t_f_X5_term ) (fun o38 h21 => ?_)
              exact tp_s (r_w (l' := 0) (h' := 2) (r_n (x := (0 : Int32)) (l := 0) (h := 0) (by decide) (by decide)) (by decide) (by decide))
theorem t_f_X5_meanWorth_J45 {k5_ : Int32 → Int64 → Option Int64} {v5_l5 : Int32} {v45_l3 : Int64} {N5 : Nat} (hk5 : ∀ (v5_l5 : Int32) (v5_l3 : Int64), R32 (0) (6) v5_l5 → (6 : Int) - v5_l5.toInt < (N5 : Nat) → TotP (k5_ v5_l5 v5_l3) (fun (r : Int64) => True)) (hm5 : (6 : Int) - v5_l5.toInt < ((N5 + 1 : Nat) : Int)) (h_v5_l5 : R32 (0) (5) v5_l5) : TotP (f_X5_meanWorth_J45 k5_ v5_l5 v45_l3) (fun (r : Int64) => True) := by
  unfold f_X5_meanWorth_J45
  exact hk5 _ _ (r_w (l' := 0) (h' := 6) (r_add (l := 1) (h := 6) h_v5_l5 (r_n (x := (1 : Int32)) (l := 1) (h := 1) (by decide) (by decide)) (by decide) (by decide) (by decide) (by decide)) (by decide) (by decide)) (ms_up (y := (1 : Int32)) h_v5_l5 (by decide) (by decide) (by decide) hm5)
theorem t_f_X5_meanWorth_L5 {k2 : Int32} {p_p : TX6_p} {n_n : TX4_n} (h_k2 : R32 (0) (899) k2) (h_p_p_1 : R32 (0) (8) p_p.1) (h_p_p_2_1 : R32 (1) (9) p_p.2.1) (h_p_p_2_2_2_2_1 : R32 (0) (4) p_p.2.2.2.2.1) (h_p_p_2_2_2_2_2_1 : R32 (0) (5) p_p.2.2.2.2.2.1) (h_p_p_2_2_2_2_2_2_1 : R32 (0) (6) p_p.2.2.2.2.2.2.1) (h_p_p_2_2_2_2_2_2_2_1 : R32 (0) (6) p_p.2.2.2.2.2.2.2.1) : ∀ (n : Nat) (v5_l5 : Int32) (v5_l3 : Int64), R32 (0) (6) v5_l5 → (6 : Int) - v5_l5.toInt < (n : Int) → TotP (f_X5_meanWorth_L5 k2 p_p n_n n v5_l5 v5_l3) (fun (r : Int64) => True) := by
  intro n
  induction n with
  | zero =>
    intro v5_l5 v5_l3 h_v5_l5 hm
    exact (ms_0u h_v5_l5 hm).elim
  | succ n ih =>
    intro v5_l5 v5_l3 h_v5_l5 hm
    rw [f_X5_meanWorth_L5]
    refine tp_if (fun c1 => ?_) (fun c1 => ?_)
    · skip
      exact tp_s trivial
    · skip
      have r2 : R32 (1) (6) p_p.2.2.2.2.2.2.1 := r_nle1 (by decide) h_p_p_2_2_2_2_2_2_1 h_v5_l5 c1
      have r3 : R32 (0) (5) v5_l5 := r_nle2 (by decide) h_p_p_2_2_2_2_2_2_1 h_v5_l5 c1
      refine tp_g r3 (by decide) (by decide) ?_
      refine tp_if (fun c4 => ?_) (fun c4 => ?_)
      · skip
        have r5 : R32 (2) (2) (p_p.2.2.2.2.2.2.2.2.2.2.1 (v5_l5).toNatClampNeg) := r_eq1 (l := 2) (h := 2) (by decide) (by decide) (r_top _) (r_n (x := (2 : Int32)) (l := 2) (h := 2) (by decide) (by decide)) c4
        exact t_f_X5_meanWorth_J45 ih hm r3
      · skip
        refine tp_g r3 (by decide) (by decide) ?_
        refine tp_n0 (fun z33 => ?_)
        refine tp_b (t_f_X5_chance (r_w (l' := -1) (h' := 899) h_k2 (by decide) (by decide)) h_p_p_1 (r_w (l' := 0) (h' := 9) h_p_p_2_1 (by decide) (by decide)) h_p_p_2_2_2_2_1 h_p_p_2_2_2_2_2_1 (r_w (l' := 0) (h' := 6) r2 (by decide) (by decide)) h_p_p_2_2_2_2_2_2_2_1) (fun o39 h6 => ?_)
        exact t_f_X5_meanWorth_J45 ih hm r3
theorem t_f_X5_meanWorth {k2 : Int32} {p_p : TX6_p} {n_n : TX4_n} (h_k2 : R32 (0) (799) k2) (h_p_p_1 : R32 (0) (8) p_p.1) (h_p_p_2_1 : R32 (1) (9) p_p.2.1) (h_p_p_2_2_2_2_1 : R32 (0) (4) p_p.2.2.2.2.1) (h_p_p_2_2_2_2_2_1 : R32 (0) (5) p_p.2.2.2.2.2.1) (h_p_p_2_2_2_2_2_2_1 : R32 (0) (6) p_p.2.2.2.2.2.2.1) (h_p_p_2_2_2_2_2_2_2_1 : R32 (0) (6) p_p.2.2.2.2.2.2.2.1) : TotP (f_X5_meanWorth k2 p_p n_n) (fun (r : Int64) => True) := by
  unfold f_X5_meanWorth
  exact t_f_X5_meanWorth_L5 (r_w (l' := 0) (h' := 899) h_k2 (by decide) (by decide)) h_p_p_1 h_p_p_2_1 h_p_p_2_2_2_2_1 h_p_p_2_2_2_2_2_1 h_p_p_2_2_2_2_2_2_1 h_p_p_2_2_2_2_2_2_2_1 FU _ _ (r_w (l' := 0) (h' := 6) (r_n (x := (0 : Int32)) (l := 0) (h := 0) (by decide) (by decide)) (by decide) (by decide)) (fu_up (r_w (l' := 0) (h' := 6) (r_n (x := (0 : Int32)) (l := 0) (h := 0) (by decide) (by decide)) (by decide) (by decide)) (by decide))
theorem t_f_X10_mean {k1 : Int32} {k2 : Int32} {k3 : Int32} {k4 : Int32} {x_x : TX10_x} {p_p : TX6_p} {n_n : TX4_n} (h_p_p_1 : R32 (0) (8) p_p.1) (h_p_p_2_1 : R32 (0) (9) p_p.2.1) (h_p_p_2_2_2_2_1 : R32 (0) (4) p_p.2.2.2.2.1) (h_p_p_2_2_2_2_2_1 : R32 (0) (5) p_p.2.2.2.2.2.1) (h_p_p_2_2_2_2_2_2_1 : R32 (0) (6) p_p.2.2.2.2.2.2.1) (h_p_p_2_2_2_2_2_2_2_1 : R32 (0) (6) p_p.2.2.2.2.2.2.2.1) : TotP (f_X10_mean k1 k2 k3 k4 x_x p_p n_n) (fun (r : Int64 × TX10_x) => R32 (0) (2) r.2.1) := by
  unfold f_X10_mean
  refine tp_e (f_X10_questionTrouble.eq_1 _ _ _ _) ?_
  refine tp_nn ?_
  refine tp_e (f_X6_hasSpot.eq_1 _ _) ?_
  refine tp_nn ?_
  refine tp_e (f_X10_within.eq_1 _ _ _) ?_
  refine tp_nif (fun c1 => ?_) (fun c1 => ?_)
  · skip
    have r2 : R32 (-2147483648) (-1) k1 := r_lt1 (by decide) (r_top _) (r_n (x := (0 : Int32)) (l := 0) (h := 0) (by decide) (by decide)) c1
    refine tp_nl ?_
    refine tp_nl ?_
    refine tp_nift (d_eq (r_n (x := (0 : Int32)) (l := 0) (h := 0) (by decide) (by decide)) (r_n (x := (0 : Int32)) (l := 0) (h := 0) (by decide) (by decide))) ?_
    refine tp_nl ?_
    refine tp_e (f_X10_refused.eq_1 _ _) ?_
    refine tp_niff (d_ne2 (r_n (x := (1 : Int32)) (l := 1) (h := 1) (by decide) (by decide)) (r_n (x := (0 : Int32)) (l := 0) (h := 0) (by decide) (by decide)) (by decide)) ?_
    refine tp_nl ?_
    refine tp_iff (d_ne2 (r_n (x := (1 : Int32)) (l := 1) (h := 1) (by decide) (by decide)) (r_n (x := (0 : Int32)) (l := 0) (h := 0) (by decide) (by decide)) (by decide)) ?_
    exact tp_s (r_w (l' := 0) (h' := 2) (r_n (x := (1 : Int32)) (l := 1) (h := 1) (by decide) (by decide)) (by decide) (by decide))
  · skip
    have r3 : R32 (0) (2147483647) k1 := r_nlt1 (r_top _) (r_n (x := (0 : Int32)) (l := 0) (h := 0) (by decide) (by decide)) c1
    refine tp_nif (fun c4 => ?_) (fun c4 => ?_)
    · skip
      refine tp_nl ?_
      refine tp_nl ?_
      refine tp_nift (d_eq (r_n (x := (0 : Int32)) (l := 0) (h := 0) (by decide) (by decide)) (r_n (x := (0 : Int32)) (l := 0) (h := 0) (by decide) (by decide))) ?_
      refine tp_nl ?_
      refine tp_e (f_X10_refused.eq_1 _ _) ?_
      refine tp_niff (d_ne2 (r_n (x := (1 : Int32)) (l := 1) (h := 1) (by decide) (by decide)) (r_n (x := (0 : Int32)) (l := 0) (h := 0) (by decide) (by decide)) (by decide)) ?_
      refine tp_nl ?_
      refine tp_iff (d_ne2 (r_n (x := (1 : Int32)) (l := 1) (h := 1) (by decide) (by decide)) (r_n (x := (0 : Int32)) (l := 0) (h := 0) (by decide) (by decide)) (by decide)) ?_
      exact tp_s (r_w (l' := 0) (h' := 2) (r_n (x := (1 : Int32)) (l := 1) (h := 1) (by decide) (by decide)) (by decide) (by decide))
    · skip
      have r5 : R32 (0) (7) (p_p.1 - (1 : Int32)) := r_nlt1 (r_sub (l := -1) (h := 7) h_p_p_1 (r_n (x := (1 : Int32)) (l := 1) (h := 1) (by decide) (by decide)) (by decide) (by decide) (by decide) (by decide)) r3 c4
      have r6 : R32 (0) (7) k1 := r_nlt2 (r_sub (l := -1) (h := 7) h_p_p_1 (r_n (x := (1 : Int32)) (l := 1) (h := 1) (by decide) (by decide)) (by decide) (by decide) (by decide) (by decide)) r3 c4
      refine tp_nl ?_
      refine tp_nl ?_
      refine tp_niff (d_ne2 (r_n (x := (1 : Int32)) (l := 1) (h := 1) (by decide) (by decide)) (r_n (x := (0 : Int32)) (l := 0) (h := 0) (by decide) (by decide)) (by decide)) ?_
      refine tp_nn ?_
      refine tp_e (f_X6_hasBait.eq_1 _ _) ?_
      refine tp_nn ?_
      refine tp_e (f_X10_within.eq_1 _ _ _) ?_
      refine tp_nif (fun c7 => ?_) (fun c7 => ?_)
      · skip
        have r8 : R32 (-2147483648) (-1) k3 := r_lt1 (by decide) (r_top _) (r_n (x := (0 : Int32)) (l := 0) (h := 0) (by decide) (by decide)) c7
        refine tp_nl ?_
        refine tp_nl ?_
        refine tp_nift (d_eq (r_n (x := (0 : Int32)) (l := 0) (h := 0) (by decide) (by decide)) (r_n (x := (0 : Int32)) (l := 0) (h := 0) (by decide) (by decide))) ?_
        refine tp_nl ?_
        refine tp_e (f_X10_refused.eq_1 _ _) ?_
        refine tp_niff (d_ne2 (r_n (x := (1 : Int32)) (l := 1) (h := 1) (by decide) (by decide)) (r_n (x := (0 : Int32)) (l := 0) (h := 0) (by decide) (by decide)) (by decide)) ?_
        refine tp_nl ?_
        refine tp_iff (d_ne2 (r_n (x := (1 : Int32)) (l := 1) (h := 1) (by decide) (by decide)) (r_n (x := (0 : Int32)) (l := 0) (h := 0) (by decide) (by decide)) (by decide)) ?_
        exact tp_s (r_w (l' := 0) (h' := 2) (r_n (x := (1 : Int32)) (l := 1) (h := 1) (by decide) (by decide)) (by decide) (by decide))
      · skip
        have r9 : R32 (0) (2147483647) k3 := r_nlt1 (r_top _) (r_n (x := (0 : Int32)) (l := 0) (h := 0) (by decide) (by decide)) c7
        refine tp_nif (fun c10 => ?_) (fun c10 => ?_)
        · skip
          refine tp_nl ?_
          refine tp_nl ?_
          refine tp_nift (d_eq (r_n (x := (0 : Int32)) (l := 0) (h := 0) (by decide) (by decide)) (r_n (x := (0 : Int32)) (l := 0) (h := 0) (by decide) (by decide))) ?_
          refine tp_nl ?_
          refine tp_e (f_X10_refused.eq_1 _ _) ?_
          refine tp_niff (d_ne2 (r_n (x := (1 : Int32)) (l := 1) (h := 1) (by decide) (by decide)) (r_n (x := (0 : Int32)) (l := 0) (h := 0) (by decide) (by decide)) (by decide)) ?_
          refine tp_nl ?_
          refine tp_iff (d_ne2 (r_n (x := (1 : Int32)) (l := 1) (h := 1) (by decide) (by decide)) (r_n (x := (0 : Int32)) (l := 0) (h := 0) (by decide) (by decide)) (by decide)) ?_
          exact tp_s (r_w (l' := 0) (h' := 2) (r_n (x := (1 : Int32)) (l := 1) (h := 1) (by decide) (by decide)) (by decide) (by decide))
        · skip
          have r11 : R32 (0) (3) (p_p.2.2.2.2.1 - (1 : Int32)) := r_nlt1 (r_sub (l := -1) (h := 3) h_p_p_2_2_2_2_1 (r_n (x := (1 : Int32)) (l := 1) (h := 1) (by decide) (by decide)) (by decide) (by decide) (by decide) (by decide)) r9 c10
          have r12 : R32 (0) (3) k3 := r_nlt2 (r_sub (l := -1) (h := 3) h_p_p_2_2_2_2_1 (r_n (x := (1 : Int32)) (l := 1) (h := 1) (by decide) (by decide)) (by decide) (by decide) (by decide) (by decide)) r9 c10
          refine tp_nl ?_
          refine tp_nl ?_
          refine tp_niff (d_ne2 (r_n (x := (1 : Int32)) (l := 1) (h := 1) (by decide) (by decide)) (r_n (x := (0 : Int32)) (l := 0) (h := 0) (by decide) (by decide)) (by decide)) ?_
          refine tp_nn ?_
          refine tp_e (f_X10_within.eq_1 _ _ _) ?_
          refine tp_nif (fun c13 => ?_) (fun c13 => ?_)
          · skip
            have r14 : R32 (-2147483648) (0) k2 := r_lt1 (by decide) (r_top _) (r_n (x := (1 : Int32)) (l := 1) (h := 1) (by decide) (by decide)) c13
            refine tp_nl ?_
            refine tp_nift (d_eq (r_n (x := (0 : Int32)) (l := 0) (h := 0) (by decide) (by decide)) (r_n (x := (0 : Int32)) (l := 0) (h := 0) (by decide) (by decide))) ?_
            refine tp_nl ?_
            refine tp_e (f_X10_refused.eq_1 _ _) ?_
            refine tp_niff (d_ne2 (r_n (x := (2 : Int32)) (l := 2) (h := 2) (by decide) (by decide)) (r_n (x := (0 : Int32)) (l := 0) (h := 0) (by decide) (by decide)) (by decide)) ?_
            refine tp_nl ?_
            refine tp_iff (d_ne2 (r_n (x := (1 : Int32)) (l := 1) (h := 1) (by decide) (by decide)) (r_n (x := (0 : Int32)) (l := 0) (h := 0) (by decide) (by decide)) (by decide)) ?_
            exact tp_s (r_w (l' := 0) (h' := 2) (r_n (x := (2 : Int32)) (l := 2) (h := 2) (by decide) (by decide)) (by decide) (by decide))
          · skip
            have r15 : R32 (1) (2147483647) k2 := r_nlt1 (r_top _) (r_n (x := (1 : Int32)) (l := 1) (h := 1) (by decide) (by decide)) c13
            refine tp_nif (fun c16 => ?_) (fun c16 => ?_)
            · skip
              refine tp_nl ?_
              refine tp_nift (d_eq (r_n (x := (0 : Int32)) (l := 0) (h := 0) (by decide) (by decide)) (r_n (x := (0 : Int32)) (l := 0) (h := 0) (by decide) (by decide))) ?_
              refine tp_nl ?_
              refine tp_e (f_X10_refused.eq_1 _ _) ?_
              refine tp_niff (d_ne2 (r_n (x := (2 : Int32)) (l := 2) (h := 2) (by decide) (by decide)) (r_n (x := (0 : Int32)) (l := 0) (h := 0) (by decide) (by decide)) (by decide)) ?_
              refine tp_nl ?_
              refine tp_iff (d_ne2 (r_n (x := (1 : Int32)) (l := 1) (h := 1) (by decide) (by decide)) (r_n (x := (0 : Int32)) (l := 0) (h := 0) (by decide) (by decide)) (by decide)) ?_
              exact tp_s (r_w (l' := 0) (h' := 2) (r_n (x := (2 : Int32)) (l := 2) (h := 2) (by decide) (by decide)) (by decide) (by decide))
            · skip
              have r17 : R32 (1) (9) p_p.2.1 := r_nlt1 h_p_p_2_1 r15 c16
              have r18 : R32 (1) (9) k2 := r_nlt2 h_p_p_2_1 r15 c16
              refine tp_nl ?_
              refine tp_niff (d_ne2 (r_n (x := (1 : Int32)) (l := 1) (h := 1) (by decide) (by decide)) (r_n (x := (0 : Int32)) (l := 0) (h := 0) (by decide) (by decide)) (by decide)) ?_
              refine tp_nl ?_
              refine tp_e (f_X10_refused.eq_1 _ _) ?_
              refine tp_nift (d_eq (r_n (x := (0 : Int32)) (l := 0) (h := 0) (by decide) (by decide)) (r_n (x := (0 : Int32)) (l := 0) (h := 0) (by decide) (by decide))) ?_
              refine tp_nl ?_
              refine tp_ift (d_eq (r_n (x := (0 : Int32)) (l := 0) (h := 0) (by decide) (by decide)) (r_n (x := (0 : Int32)) (l := 0) (h := 0) (by decide) (by decide))) ?_
              refine tp_e (f_X10_question.eq_1 _ _ _) ?_
              refine tp_n (P := fun z => R32 (10) (793) z) (r_add (l := 10) (h := 793) (r_add (l := 10) (h := 790) (r_mul (l := 0) (h := 700) (r_n (x := (100 : Int32)) (l := 100) (h := 100) (by decide) (by decide)) r6 (by decide) (by decide) (by decide) (by decide) (by decide)) (r_mul (l := 10) (h := 90) (r_n (x := (10 : Int32)) (l := 10) (h := 10) (by decide) (by decide)) r18 (by decide) (by decide) (by decide) (by decide) (by decide)) (by decide) (by decide) (by decide) (by decide)) r12 (by decide) (by decide) (by decide) (by decide)) (fun o29 h19 => ?_)
              refine tp_b (t_f_X5_meanWorth (r_w (l' := 0) (h' := 799) h19 (by decide) (by decide)) h_p_p_1 r17 h_p_p_2_2_2_2_1 h_p_p_2_2_2_2_2_1 h_p_p_2_2_2_2_2_2_1 h_p_p_2_2_2_2_2_2_2_1) (fun o32 h20 => ?_)
              refine tp_b (t_f_X5_term ) (fun o37 h21 => ?_)
              exact tp_s (r_w (l' := 0) (h' := 2) (r_n (x := (0 : Int32)) (l := 0) (h := 0) (by decide) (by decide)) (by decide) (by decide))
theorem t_f_X5_likeliestTaker_J43 {k9_ : Int32 → Int64 → Int32 → Option Int32} {v9_l6 : Int32} {v43_l4 : Int64} {v43_l3 : Int32} {N9 : Nat} (hk9 : ∀ (v9_l6 : Int32) (v9_l4 : Int64) (v9_l3 : Int32), R32 (0) (6) v9_l6 → R32 (-2) (5) v9_l3 → (6 : Int) - v9_l6.toInt < (N9 : Nat) → TotP (k9_ v9_l6 v9_l4 v9_l3) (fun (r : Int32) => R32 (-2) (5) r)) (hm9 : (6 : Int) - v9_l6.toInt < ((N9 + 1 : Nat) : Int)) (h_v9_l6 : R32 (0) (5) v9_l6) (h_v43_l3 : R32 (-2) (5) v43_l3) : TotP (f_X5_likeliestTaker_J43 k9_ v9_l6 v43_l4 v43_l3) (fun (r : Int32) => R32 (-2) (5) r) := by
  unfold f_X5_likeliestTaker_J43
  exact hk9 _ _ _ (r_w (l' := 0) (h' := 6) (r_add (l := 1) (h := 6) h_v9_l6 (r_n (x := (1 : Int32)) (l := 1) (h := 1) (by decide) (by decide)) (by decide) (by decide) (by decide) (by decide)) (by decide) (by decide)) h_v43_l3 (ms_up (y := (1 : Int32)) h_v9_l6 (by decide) (by decide) (by decide) hm9)
theorem t_f_X5_likeliestTaker_L9 {k2 : Int32} {p_p : TX6_p} {n_n : TX4_n} (h_k2 : R32 (10) (793) k2) (h_p_p_1 : R32 (0) (8) p_p.1) (h_p_p_2_1 : R32 (1) (9) p_p.2.1) (h_p_p_2_2_2_2_1 : R32 (0) (4) p_p.2.2.2.2.1) (h_p_p_2_2_2_2_2_1 : R32 (0) (5) p_p.2.2.2.2.2.1) (h_p_p_2_2_2_2_2_2_1 : R32 (0) (6) p_p.2.2.2.2.2.2.1) (h_p_p_2_2_2_2_2_2_2_1 : R32 (0) (6) p_p.2.2.2.2.2.2.2.1) : ∀ (n : Nat) (v9_l6 : Int32) (v9_l4 : Int64) (v9_l3 : Int32), R32 (0) (6) v9_l6 → R32 (-2) (5) v9_l3 → (6 : Int) - v9_l6.toInt < (n : Int) → TotP (f_X5_likeliestTaker_L9 k2 p_p n_n n v9_l6 v9_l4 v9_l3) (fun (r : Int32) => R32 (-2) (5) r) := by
  intro n
  induction n with
  | zero =>
    intro v9_l6 v9_l4 v9_l3 h_v9_l6 h_v9_l3 hm
    exact (ms_0u h_v9_l6 hm).elim
  | succ n ih =>
    intro v9_l6 v9_l4 v9_l3 h_v9_l6 h_v9_l3 hm
    rw [f_X5_likeliestTaker_L9]
    refine tp_if (fun c1 => ?_) (fun c1 => ?_)
    · skip
      exact tp_s h_v9_l3
    · skip
      have r2 : R32 (1) (6) p_p.2.2.2.2.2.2.1 := r_nle1 (by decide) h_p_p_2_2_2_2_2_2_1 h_v9_l6 c1
      have r3 : R32 (0) (5) v9_l6 := r_nle2 (by decide) h_p_p_2_2_2_2_2_2_1 h_v9_l6 c1
      refine tp_b (t_f_X5_chance (r_w (l' := -1) (h' := 899) h_k2 (by decide) (by decide)) h_p_p_1 (r_w (l' := 0) (h' := 9) h_p_p_2_1 (by decide) (by decide)) h_p_p_2_2_2_2_1 h_p_p_2_2_2_2_2_1 (r_w (l' := 0) (h' := 6) r2 (by decide) (by decide)) h_p_p_2_2_2_2_2_2_2_1) (fun o23 h4 => ?_)
      refine tp_if (fun c5 => ?_) (fun c5 => ?_)
      · skip
        have r6 : R32 (-2147483648) (0) (lg_cmp o23 v9_l4) := r_le1 (r_top _) (r_n (x := (0 : Int32)) (l := 0) (h := 0) (by decide) (by decide)) c5
        exact t_f_X5_likeliestTaker_J43 ih hm r3 h_v9_l3
      · skip
        have r7 : R32 (1) (2147483647) (lg_cmp o23 v9_l4) := r_nle1 (by decide) (r_top _) (r_n (x := (0 : Int32)) (l := 0) (h := 0) (by decide) (by decide)) c5
        exact t_f_X5_likeliestTaker_J43 ih hm r3 (r_w (l' := -2) (h' := 5) r3 (by decide) (by decide))
theorem t_f_X5_likeliestTaker {k2 : Int32} {p_p : TX6_p} {n_n : TX4_n} (h_k2 : R32 (10) (793) k2) (h_p_p_1 : R32 (0) (8) p_p.1) (h_p_p_2_1 : R32 (1) (9) p_p.2.1) (h_p_p_2_2_2_2_1 : R32 (0) (4) p_p.2.2.2.2.1) (h_p_p_2_2_2_2_2_1 : R32 (0) (5) p_p.2.2.2.2.2.1) (h_p_p_2_2_2_2_2_2_1 : R32 (0) (6) p_p.2.2.2.2.2.2.1) (h_p_p_2_2_2_2_2_2_2_1 : R32 (0) (6) p_p.2.2.2.2.2.2.2.1) : TotP (f_X5_likeliestTaker k2 p_p n_n) (fun (r : Int32) => R32 (-2) (5) r) := by
  unfold f_X5_likeliestTaker
  exact t_f_X5_likeliestTaker_L9 h_k2 h_p_p_1 h_p_p_2_1 h_p_p_2_2_2_2_1 h_p_p_2_2_2_2_2_1 h_p_p_2_2_2_2_2_2_1 h_p_p_2_2_2_2_2_2_2_1 FU _ _ _ (r_w (l' := 0) (h' := 6) (r_n (x := (0 : Int32)) (l := 0) (h := 0) (by decide) (by decide)) (by decide) (by decide)) (r_w (l' := -2) (h' := 5) (r_n (x := (-2 : Int32)) (l := -2) (h := -2) (by decide) (by decide)) (by decide) (by decide)) (fu_up (r_w (l' := 0) (h' := 6) (r_n (x := (0 : Int32)) (l := 0) (h := 0) (by decide) (by decide)) (by decide) (by decide)) (by decide))
theorem t_f_X10_likeliest {k1 : Int32} {k2 : Int32} {k3 : Int32} {x_x : TX10_x} {p_p : TX6_p} {n_n : TX4_n} (h_p_p_1 : R32 (0) (8) p_p.1) (h_p_p_2_1 : R32 (0) (9) p_p.2.1) (h_p_p_2_2_2_2_1 : R32 (0) (4) p_p.2.2.2.2.1) (h_p_p_2_2_2_2_2_1 : R32 (0) (5) p_p.2.2.2.2.2.1) (h_p_p_2_2_2_2_2_2_1 : R32 (0) (6) p_p.2.2.2.2.2.2.1) (h_p_p_2_2_2_2_2_2_2_1 : R32 (0) (6) p_p.2.2.2.2.2.2.2.1) : TotP (f_X10_likeliest k1 k2 k3 x_x p_p n_n) (fun (r : Int32 × TX10_x) => R32 (-2) (5) r.1 ∧ R32 (0) (2) r.2.1) := by
  unfold f_X10_likeliest
  refine tp_e (f_X10_questionTrouble.eq_1 _ _ _ _) ?_
  refine tp_nn ?_
  refine tp_e (f_X6_hasSpot.eq_1 _ _) ?_
  refine tp_nn ?_
  refine tp_e (f_X10_within.eq_1 _ _ _) ?_
  refine tp_nif (fun c1 => ?_) (fun c1 => ?_)
  · skip
    have r2 : R32 (-2147483648) (-1) k1 := r_lt1 (by decide) (r_top _) (r_n (x := (0 : Int32)) (l := 0) (h := 0) (by decide) (by decide)) c1
    refine tp_nl ?_
    refine tp_nl ?_
    refine tp_nift (d_eq (r_n (x := (0 : Int32)) (l := 0) (h := 0) (by decide) (by decide)) (r_n (x := (0 : Int32)) (l := 0) (h := 0) (by decide) (by decide))) ?_
    refine tp_nl ?_
    refine tp_e (f_X10_refused.eq_1 _ _) ?_
    refine tp_niff (d_ne2 (r_n (x := (1 : Int32)) (l := 1) (h := 1) (by decide) (by decide)) (r_n (x := (0 : Int32)) (l := 0) (h := 0) (by decide) (by decide)) (by decide)) ?_
    refine tp_nl ?_
    refine tp_iff (d_ne2 (r_n (x := (1 : Int32)) (l := 1) (h := 1) (by decide) (by decide)) (r_n (x := (0 : Int32)) (l := 0) (h := 0) (by decide) (by decide)) (by decide)) ?_
    exact tp_s ⟨(r_w (l' := -2) (h' := 5) (r_n (x := (-1 : Int32)) (l := -1) (h := -1) (by decide) (by decide)) (by decide) (by decide)), (r_w (l' := 0) (h' := 2) (r_n (x := (1 : Int32)) (l := 1) (h := 1) (by decide) (by decide)) (by decide) (by decide))⟩
  · skip
    have r3 : R32 (0) (2147483647) k1 := r_nlt1 (r_top _) (r_n (x := (0 : Int32)) (l := 0) (h := 0) (by decide) (by decide)) c1
    refine tp_nif (fun c4 => ?_) (fun c4 => ?_)
    · skip
      refine tp_nl ?_
      refine tp_nl ?_
      refine tp_nift (d_eq (r_n (x := (0 : Int32)) (l := 0) (h := 0) (by decide) (by decide)) (r_n (x := (0 : Int32)) (l := 0) (h := 0) (by decide) (by decide))) ?_
      refine tp_nl ?_
      refine tp_e (f_X10_refused.eq_1 _ _) ?_
      refine tp_niff (d_ne2 (r_n (x := (1 : Int32)) (l := 1) (h := 1) (by decide) (by decide)) (r_n (x := (0 : Int32)) (l := 0) (h := 0) (by decide) (by decide)) (by decide)) ?_
      refine tp_nl ?_
      refine tp_iff (d_ne2 (r_n (x := (1 : Int32)) (l := 1) (h := 1) (by decide) (by decide)) (r_n (x := (0 : Int32)) (l := 0) (h := 0) (by decide) (by decide)) (by decide)) ?_
      exact tp_s ⟨(r_w (l' := -2) (h' := 5) (r_n (x := (-1 : Int32)) (l := -1) (h := -1) (by decide) (by decide)) (by decide) (by decide)), (r_w (l' := 0) (h' := 2) (r_n (x := (1 : Int32)) (l := 1) (h := 1) (by decide) (by decide)) (by decide) (by decide))⟩
    · skip
      have r5 : R32 (0) (7) (p_p.1 - (1 : Int32)) := r_nlt1 (r_sub (l := -1) (h := 7) h_p_p_1 (r_n (x := (1 : Int32)) (l := 1) (h := 1) (by decide) (by decide)) (by decide) (by decide) (by decide) (by decide)) r3 c4
      have r6 : R32 (0) (7) k1 := r_nlt2 (r_sub (l := -1) (h := 7) h_p_p_1 (r_n (x := (1 : Int32)) (l := 1) (h := 1) (by decide) (by decide)) (by decide) (by decide) (by decide) (by decide)) r3 c4
      refine tp_nl ?_
      refine tp_nl ?_
      refine tp_niff (d_ne2 (r_n (x := (1 : Int32)) (l := 1) (h := 1) (by decide) (by decide)) (r_n (x := (0 : Int32)) (l := 0) (h := 0) (by decide) (by decide)) (by decide)) ?_
      refine tp_nn ?_
      refine tp_e (f_X6_hasBait.eq_1 _ _) ?_
      refine tp_nn ?_
      refine tp_e (f_X10_within.eq_1 _ _ _) ?_
      refine tp_nif (fun c7 => ?_) (fun c7 => ?_)
      · skip
        have r8 : R32 (-2147483648) (-1) k3 := r_lt1 (by decide) (r_top _) (r_n (x := (0 : Int32)) (l := 0) (h := 0) (by decide) (by decide)) c7
        refine tp_nl ?_
        refine tp_nl ?_
        refine tp_nift (d_eq (r_n (x := (0 : Int32)) (l := 0) (h := 0) (by decide) (by decide)) (r_n (x := (0 : Int32)) (l := 0) (h := 0) (by decide) (by decide))) ?_
        refine tp_nl ?_
        refine tp_e (f_X10_refused.eq_1 _ _) ?_
        refine tp_niff (d_ne2 (r_n (x := (1 : Int32)) (l := 1) (h := 1) (by decide) (by decide)) (r_n (x := (0 : Int32)) (l := 0) (h := 0) (by decide) (by decide)) (by decide)) ?_
        refine tp_nl ?_
        refine tp_iff (d_ne2 (r_n (x := (1 : Int32)) (l := 1) (h := 1) (by decide) (by decide)) (r_n (x := (0 : Int32)) (l := 0) (h := 0) (by decide) (by decide)) (by decide)) ?_
        exact tp_s ⟨(r_w (l' := -2) (h' := 5) (r_n (x := (-1 : Int32)) (l := -1) (h := -1) (by decide) (by decide)) (by decide) (by decide)), (r_w (l' := 0) (h' := 2) (r_n (x := (1 : Int32)) (l := 1) (h := 1) (by decide) (by decide)) (by decide) (by decide))⟩
      · skip
        have r9 : R32 (0) (2147483647) k3 := r_nlt1 (r_top _) (r_n (x := (0 : Int32)) (l := 0) (h := 0) (by decide) (by decide)) c7
        refine tp_nif (fun c10 => ?_) (fun c10 => ?_)
        · skip
          refine tp_nl ?_
          refine tp_nl ?_
          refine tp_nift (d_eq (r_n (x := (0 : Int32)) (l := 0) (h := 0) (by decide) (by decide)) (r_n (x := (0 : Int32)) (l := 0) (h := 0) (by decide) (by decide))) ?_
          refine tp_nl ?_
          refine tp_e (f_X10_refused.eq_1 _ _) ?_
          refine tp_niff (d_ne2 (r_n (x := (1 : Int32)) (l := 1) (h := 1) (by decide) (by decide)) (r_n (x := (0 : Int32)) (l := 0) (h := 0) (by decide) (by decide)) (by decide)) ?_
          refine tp_nl ?_
          refine tp_iff (d_ne2 (r_n (x := (1 : Int32)) (l := 1) (h := 1) (by decide) (by decide)) (r_n (x := (0 : Int32)) (l := 0) (h := 0) (by decide) (by decide)) (by decide)) ?_
          exact tp_s ⟨(r_w (l' := -2) (h' := 5) (r_n (x := (-1 : Int32)) (l := -1) (h := -1) (by decide) (by decide)) (by decide) (by decide)), (r_w (l' := 0) (h' := 2) (r_n (x := (1 : Int32)) (l := 1) (h := 1) (by decide) (by decide)) (by decide) (by decide))⟩
        · skip
          have r11 : R32 (0) (3) (p_p.2.2.2.2.1 - (1 : Int32)) := r_nlt1 (r_sub (l := -1) (h := 3) h_p_p_2_2_2_2_1 (r_n (x := (1 : Int32)) (l := 1) (h := 1) (by decide) (by decide)) (by decide) (by decide) (by decide) (by decide)) r9 c10
          have r12 : R32 (0) (3) k3 := r_nlt2 (r_sub (l := -1) (h := 3) h_p_p_2_2_2_2_1 (r_n (x := (1 : Int32)) (l := 1) (h := 1) (by decide) (by decide)) (by decide) (by decide) (by decide) (by decide)) r9 c10
          refine tp_nl ?_
          refine tp_nl ?_
          refine tp_niff (d_ne2 (r_n (x := (1 : Int32)) (l := 1) (h := 1) (by decide) (by decide)) (r_n (x := (0 : Int32)) (l := 0) (h := 0) (by decide) (by decide)) (by decide)) ?_
          refine tp_nn ?_
          refine tp_e (f_X10_within.eq_1 _ _ _) ?_
          refine tp_nif (fun c13 => ?_) (fun c13 => ?_)
          · skip
            have r14 : R32 (-2147483648) (0) k2 := r_lt1 (by decide) (r_top _) (r_n (x := (1 : Int32)) (l := 1) (h := 1) (by decide) (by decide)) c13
            refine tp_nl ?_
            refine tp_nift (d_eq (r_n (x := (0 : Int32)) (l := 0) (h := 0) (by decide) (by decide)) (r_n (x := (0 : Int32)) (l := 0) (h := 0) (by decide) (by decide))) ?_
            refine tp_nl ?_
            refine tp_e (f_X10_refused.eq_1 _ _) ?_
            refine tp_niff (d_ne2 (r_n (x := (2 : Int32)) (l := 2) (h := 2) (by decide) (by decide)) (r_n (x := (0 : Int32)) (l := 0) (h := 0) (by decide) (by decide)) (by decide)) ?_
            refine tp_nl ?_
            refine tp_iff (d_ne2 (r_n (x := (1 : Int32)) (l := 1) (h := 1) (by decide) (by decide)) (r_n (x := (0 : Int32)) (l := 0) (h := 0) (by decide) (by decide)) (by decide)) ?_
            exact tp_s ⟨(r_w (l' := -2) (h' := 5) (r_n (x := (-1 : Int32)) (l := -1) (h := -1) (by decide) (by decide)) (by decide) (by decide)), (r_w (l' := 0) (h' := 2) (r_n (x := (2 : Int32)) (l := 2) (h := 2) (by decide) (by decide)) (by decide) (by decide))⟩
          · skip
            have r15 : R32 (1) (2147483647) k2 := r_nlt1 (r_top _) (r_n (x := (1 : Int32)) (l := 1) (h := 1) (by decide) (by decide)) c13
            refine tp_nif (fun c16 => ?_) (fun c16 => ?_)
            · skip
              refine tp_nl ?_
              refine tp_nift (d_eq (r_n (x := (0 : Int32)) (l := 0) (h := 0) (by decide) (by decide)) (r_n (x := (0 : Int32)) (l := 0) (h := 0) (by decide) (by decide))) ?_
              refine tp_nl ?_
              refine tp_e (f_X10_refused.eq_1 _ _) ?_
              refine tp_niff (d_ne2 (r_n (x := (2 : Int32)) (l := 2) (h := 2) (by decide) (by decide)) (r_n (x := (0 : Int32)) (l := 0) (h := 0) (by decide) (by decide)) (by decide)) ?_
              refine tp_nl ?_
              refine tp_iff (d_ne2 (r_n (x := (1 : Int32)) (l := 1) (h := 1) (by decide) (by decide)) (r_n (x := (0 : Int32)) (l := 0) (h := 0) (by decide) (by decide)) (by decide)) ?_
              exact tp_s ⟨(r_w (l' := -2) (h' := 5) (r_n (x := (-1 : Int32)) (l := -1) (h := -1) (by decide) (by decide)) (by decide) (by decide)), (r_w (l' := 0) (h' := 2) (r_n (x := (2 : Int32)) (l := 2) (h := 2) (by decide) (by decide)) (by decide) (by decide))⟩
            · skip
              have r17 : R32 (1) (9) p_p.2.1 := r_nlt1 h_p_p_2_1 r15 c16
              have r18 : R32 (1) (9) k2 := r_nlt2 h_p_p_2_1 r15 c16
              refine tp_nl ?_
              refine tp_niff (d_ne2 (r_n (x := (1 : Int32)) (l := 1) (h := 1) (by decide) (by decide)) (r_n (x := (0 : Int32)) (l := 0) (h := 0) (by decide) (by decide)) (by decide)) ?_
              refine tp_nl ?_
              refine tp_e (f_X10_refused.eq_1 _ _) ?_
              refine tp_nift (d_eq (r_n (x := (0 : Int32)) (l := 0) (h := 0) (by decide) (by decide)) (r_n (x := (0 : Int32)) (l := 0) (h := 0) (by decide) (by decide))) ?_
              refine tp_nl ?_
              refine tp_ift (d_eq (r_n (x := (0 : Int32)) (l := 0) (h := 0) (by decide) (by decide)) (r_n (x := (0 : Int32)) (l := 0) (h := 0) (by decide) (by decide))) ?_
              refine tp_e (f_X10_question.eq_1 _ _ _) ?_
              refine tp_n (P := fun z => R32 (10) (793) z) (r_add (l := 10) (h := 793) (r_add (l := 10) (h := 790) (r_mul (l := 0) (h := 700) (r_n (x := (100 : Int32)) (l := 100) (h := 100) (by decide) (by decide)) r6 (by decide) (by decide) (by decide) (by decide) (by decide)) (r_mul (l := 10) (h := 90) (r_n (x := (10 : Int32)) (l := 10) (h := 10) (by decide) (by decide)) r18 (by decide) (by decide) (by decide) (by decide) (by decide)) (by decide) (by decide) (by decide) (by decide)) r12 (by decide) (by decide) (by decide) (by decide)) (fun o27 h19 => ?_)
              refine tp_b (t_f_X5_likeliestTaker h19 h_p_p_1 r17 h_p_p_2_2_2_2_1 h_p_p_2_2_2_2_2_1 h_p_p_2_2_2_2_2_2_1 h_p_p_2_2_2_2_2_2_2_1) (fun o30 h20 => ?_)
              exact tp_s ⟨h20, (r_w (l' := 0) (h' := 2) (r_n (x := (0 : Int32)) (l := 0) (h := 0) (by decide) (by decide)) (by decide) (by decide))⟩
theorem t_f_X10_thereTrouble {k1 : Int32} {p_p : TX6_p} {n_n : TX4_n} (h_p_p_1 : R32 (0) (8) p_p.1) (h_p_p_2_1 : R32 (0) (9) p_p.2.1) (h_p_p_2_2_2_2_1 : R32 (0) (4) p_p.2.2.2.2.1) (h_p_p_2_2_2_2_2_1 : R32 (0) (5) p_p.2.2.2.2.2.1) (h_p_p_2_2_2_2_2_2_1 : R32 (0) (6) p_p.2.2.2.2.2.2.1) (h_p_p_2_2_2_2_2_2_2_1 : R32 (0) (6) p_p.2.2.2.2.2.2.2.1) : TotP (f_X10_thereTrouble k1 p_p n_n) (fun (r : Int32) => R32 (0) (5) r) := by
  unfold f_X10_thereTrouble
  refine tp_e (f_X10_answerTrouble.eq_1 _ _) ?_
  refine tp_nn ?_
  refine tp_e (f_X6_hasAnswer.eq_1 _ _) ?_
  refine tp_nn ?_
  refine tp_e (f_X10_within.eq_1 _ _ _) ?_
  refine tp_nif (fun c1 => ?_) (fun c1 => ?_)
  · skip
    have r2 : R32 (-2147483648) (-1) k1 := r_lt1 (by decide) (r_top _) (r_n (x := (0 : Int32)) (l := 0) (h := 0) (by decide) (by decide)) c1
    refine tp_nl ?_
    refine tp_nl ?_
    refine tp_nift (d_eq (r_n (x := (0 : Int32)) (l := 0) (h := 0) (by decide) (by decide)) (r_n (x := (0 : Int32)) (l := 0) (h := 0) (by decide) (by decide))) ?_
    refine tp_nl ?_
    refine tp_iff (d_ne2 (r_n (x := (1 : Int32)) (l := 1) (h := 1) (by decide) (by decide)) (r_n (x := (0 : Int32)) (l := 0) (h := 0) (by decide) (by decide)) (by decide)) ?_
    refine tp_u (f_X10_thereTrouble_J26.eq_1 _) ?_
    exact tp_s (r_w (l' := 0) (h' := 5) (r_n (x := (1 : Int32)) (l := 1) (h := 1) (by decide) (by decide)) (by decide) (by decide))
  · skip
    have r3 : R32 (0) (2147483647) k1 := r_nlt1 (r_top _) (r_n (x := (0 : Int32)) (l := 0) (h := 0) (by decide) (by decide)) c1
    refine tp_nif (fun c4 => ?_) (fun c4 => ?_)
    · skip
      refine tp_nl ?_
      refine tp_nl ?_
      refine tp_nift (d_eq (r_n (x := (0 : Int32)) (l := 0) (h := 0) (by decide) (by decide)) (r_n (x := (0 : Int32)) (l := 0) (h := 0) (by decide) (by decide))) ?_
      refine tp_nl ?_
      refine tp_iff (d_ne2 (r_n (x := (1 : Int32)) (l := 1) (h := 1) (by decide) (by decide)) (r_n (x := (0 : Int32)) (l := 0) (h := 0) (by decide) (by decide)) (by decide)) ?_
      refine tp_u (f_X10_thereTrouble_J26.eq_1 _) ?_
      exact tp_s (r_w (l' := 0) (h' := 5) (r_n (x := (1 : Int32)) (l := 1) (h := 1) (by decide) (by decide)) (by decide) (by decide))
    · skip
      have r5 : R32 (0) (5) (p_p.2.2.2.2.2.2.1 - (1 : Int32)) := r_nlt1 (r_sub (l := -1) (h := 5) h_p_p_2_2_2_2_2_2_1 (r_n (x := (1 : Int32)) (l := 1) (h := 1) (by decide) (by decide)) (by decide) (by decide) (by decide) (by decide)) r3 c4
      have r6 : R32 (0) (5) k1 := r_nlt2 (r_sub (l := -1) (h := 5) h_p_p_2_2_2_2_2_2_1 (r_n (x := (1 : Int32)) (l := 1) (h := 1) (by decide) (by decide)) (by decide) (by decide) (by decide) (by decide)) r3 c4
      refine tp_nl ?_
      refine tp_nl ?_
      refine tp_niff (d_ne2 (r_n (x := (1 : Int32)) (l := 1) (h := 1) (by decide) (by decide)) (r_n (x := (0 : Int32)) (l := 0) (h := 0) (by decide) (by decide)) (by decide)) ?_
      refine tp_nl ?_
      refine tp_ift (d_eq (r_n (x := (0 : Int32)) (l := 0) (h := 0) (by decide) (by decide)) (r_n (x := (0 : Int32)) (l := 0) (h := 0) (by decide) (by decide))) ?_
      refine tp_g r6 (by decide) (by decide) ?_
      refine tp_if (fun c7 => ?_) (fun c7 => ?_)
      · skip
        have r8 : R32 (0) (0) (n_n.2.2.2.1 (k1).toNatClampNeg) := r_eq1 (l := 0) (h := 0) (by decide) (by decide) (r_top _) (r_n (x := (0 : Int32)) (l := 0) (h := 0) (by decide) (by decide)) c7
        refine tp_u (f_X10_thereTrouble_J26.eq_1 _) ?_
        exact tp_s (r_w (l' := 0) (h' := 5) (r_n (x := (0 : Int32)) (l := 0) (h := 0) (by decide) (by decide)) (by decide) (by decide))
      · skip
        exact tp_s (r_w (l' := 0) (h' := 5) (r_n (x := (5 : Int32)) (l := 5) (h := 5) (by decide) (by decide)) (by decide) (by decide))
theorem t_f_X5_surestQuestion_J56 {k9_ : Int32 → Int64 → Int32 → Option Int32} {v9_l6 : Int32} {v56_l4 : Int64} {v56_l3 : Int32} {N9 : Nat} (hk9 : ∀ (v9_l6 : Int32) (v9_l4 : Int64) (v9_l3 : Int32), R32 (0) (900) v9_l6 → R32 (-2) (899) v9_l3 → (900 : Int) - v9_l6.toInt < (N9 : Nat) → TotP (k9_ v9_l6 v9_l4 v9_l3) (fun (r : Int32) => R32 (-2) (899) r)) (hm9 : (900 : Int) - v9_l6.toInt < ((N9 + 1 : Nat) : Int)) (h_v9_l6 : R32 (0) (899) v9_l6) (h_v56_l3 : R32 (-2) (899) v56_l3) : TotP (f_X5_surestQuestion_J56 k9_ v9_l6 v56_l4 v56_l3) (fun (r : Int32) => R32 (-2) (899) r) := by
  unfold f_X5_surestQuestion_J56
  exact hk9 _ _ _ (r_w (l' := 0) (h' := 900) (r_add (l := 1) (h := 900) h_v9_l6 (r_n (x := (1 : Int32)) (l := 1) (h := 1) (by decide) (by decide)) (by decide) (by decide) (by decide) (by decide)) (by decide) (by decide)) h_v56_l3 (ms_up (y := (1 : Int32)) h_v9_l6 (by decide) (by decide) (by decide) hm9)
theorem t_f_X5_surestQuestion_J39 {k9_ : Int32 → Int64 → Int32 → Option Int32} {v9_l3 : Int32} {v9_l4 : Int64} {v9_l6 : Int32} {v39_t0 : Int64} {N9 : Nat} (hk9 : ∀ (v9_l6 : Int32) (v9_l4 : Int64) (v9_l3 : Int32), R32 (0) (900) v9_l6 → R32 (-2) (899) v9_l3 → (900 : Int) - v9_l6.toInt < (N9 : Nat) → TotP (k9_ v9_l6 v9_l4 v9_l3) (fun (r : Int32) => R32 (-2) (899) r)) (hm9 : (900 : Int) - v9_l6.toInt < ((N9 + 1 : Nat) : Int)) (h_v9_l3 : R32 (-2) (899) v9_l3) (h_v9_l6 : R32 (0) (899) v9_l6) : TotP (f_X5_surestQuestion_J39 k9_ v9_l3 v9_l4 v9_l6 v39_t0) (fun (r : Int32) => R32 (-2) (899) r) := by
  unfold f_X5_surestQuestion_J39
  refine tp_if (fun c1 => ?_) (fun c1 => ?_)
  · skip
    have r2 : R32 (-2147483648) (0) (lg_cmp v39_t0 v9_l4) := r_le1 (r_top _) (r_n (x := (0 : Int32)) (l := 0) (h := 0) (by decide) (by decide)) c1
    exact t_f_X5_surestQuestion_J56 hk9 hm9 h_v9_l6 h_v9_l3
  · skip
    have r3 : R32 (1) (2147483647) (lg_cmp v39_t0 v9_l4) := r_nle1 (by decide) (r_top _) (r_n (x := (0 : Int32)) (l := 0) (h := 0) (by decide) (by decide)) c1
    exact t_f_X5_surestQuestion_J56 hk9 hm9 h_v9_l6 (r_w (l' := -2) (h' := 899) h_v9_l6 (by decide) (by decide))
theorem t_f_X5_surestQuestion_L9 {k2 : Int32} {p_p : TX6_p} {n_n : TX4_n} (h_p_p_1 : R32 (0) (8) p_p.1) (h_p_p_2_1 : R32 (0) (9) p_p.2.1) (h_p_p_2_2_2_2_1 : R32 (0) (4) p_p.2.2.2.2.1) (h_p_p_2_2_2_2_2_1 : R32 (0) (5) p_p.2.2.2.2.2.1) (h_p_p_2_2_2_2_2_2_1 : R32 (0) (6) p_p.2.2.2.2.2.2.1) (h_p_p_2_2_2_2_2_2_2_1 : R32 (0) (6) p_p.2.2.2.2.2.2.2.1) : ∀ (n : Nat) (v9_l6 : Int32) (v9_l4 : Int64) (v9_l3 : Int32), R32 (0) (900) v9_l6 → R32 (-2) (899) v9_l3 → (900 : Int) - v9_l6.toInt < (n : Int) → TotP (f_X5_surestQuestion_L9 k2 p_p n_n n v9_l6 v9_l4 v9_l3) (fun (r : Int32) => R32 (-2) (899) r) := by
  intro n
  induction n with
  | zero =>
    intro v9_l6 v9_l4 v9_l3 h_v9_l6 h_v9_l3 hm
    exact (ms_0u h_v9_l6 hm).elim
  | succ n ih =>
    intro v9_l6 v9_l4 v9_l3 h_v9_l6 h_v9_l3 hm
    rw [f_X5_surestQuestion_L9]
    refine tp_e (f_X6_questionBound.eq_1 _) ?_
    refine tp_n (P := fun z => R32 (0) (800) z) (r_mul (l := 0) (h := 800) (r_n (x := (100 : Int32)) (l := 100) (h := 100) (by decide) (by decide)) h_p_p_1 (by decide) (by decide) (by decide) (by decide) (by decide)) (fun o12 h1 => ?_)
    refine tp_if (fun c2 => ?_) (fun c2 => ?_)
    · skip
      exact tp_s h_v9_l3
    · skip
      have r3 : R32 (1) (800) o12 := r_nle1 (by decide) h1 h_v9_l6 c2
      have r4 : R32 (0) (799) v9_l6 := r_nle2 (by decide) h1 h_v9_l6 c2
      refine tp_e (f_X6_hasQuestion.eq_1 _ _) ?_
      refine tp_nn ?_
      refine tp_e (f_X10_spotOf.eq_1 _) ?_
      refine tp_n (P := fun z => R32 (0) (7) z) (r_div (l := 0) (h := 7) r4 (r_n (x := (100 : Int32)) (l := 100) (h := 100) (by decide) (by decide)) (by decide) (by decide) (by decide) (by decide)) (fun o2 h5 => ?_)
      refine tp_nn ?_
      refine tp_e (f_X6_hasSpot.eq_1 _ _) ?_
      refine tp_nn ?_
      refine tp_e (f_X10_within.eq_1 _ _ _) ?_
      refine tp_niff (d_nlt h5 (r_n (x := (0 : Int32)) (l := 0) (h := 0) (by decide) (by decide)) (by decide)) ?_
      refine tp_nif (fun c6 => ?_) (fun c6 => ?_)
      · skip
        have r7 : R32 (-1) (6) (p_p.1 - (1 : Int32)) := r_lt1 (by decide) (r_sub (l := -1) (h := 7) h_p_p_1 (r_n (x := (1 : Int32)) (l := 1) (h := 1) (by decide) (by decide)) (by decide) (by decide) (by decide) (by decide)) h5 c6
        refine tp_nl ?_
        refine tp_nl ?_
        refine tp_nift (d_eq (r_n (x := (0 : Int32)) (l := 0) (h := 0) (by decide) (by decide)) (r_n (x := (0 : Int32)) (l := 0) (h := 0) (by decide) (by decide))) ?_
        refine tp_nl ?_
        refine tp_ift (d_eq (r_n (x := (0 : Int32)) (l := 0) (h := 0) (by decide) (by decide)) (r_n (x := (0 : Int32)) (l := 0) (h := 0) (by decide) (by decide))) ?_
        exact t_f_X5_surestQuestion_J39 ih hm h_v9_l3 (r_w (l' := 0) (h' := 899) r4 (by decide) (by decide))
      · skip
        have r8 : R32 (0) (7) (p_p.1 - (1 : Int32)) := r_nlt1 (r_sub (l := -1) (h := 7) h_p_p_1 (r_n (x := (1 : Int32)) (l := 1) (h := 1) (by decide) (by decide)) (by decide) (by decide) (by decide) (by decide)) h5 c6
        refine tp_nl ?_
        refine tp_nl ?_
        refine tp_niff (d_ne2 (r_n (x := (1 : Int32)) (l := 1) (h := 1) (by decide) (by decide)) (r_n (x := (0 : Int32)) (l := 0) (h := 0) (by decide) (by decide)) (by decide)) ?_
        refine tp_nn ?_
        refine tp_e (f_X10_fathomsOf.eq_1 _) ?_
        refine tp_nn ?_
        refine tp_n (P := fun z => R32 (0) (9) z) (r_mod (c := 10) (h := 9) (y := (10 : Int32)) (r_div (l := 0) (h := 79) r4 (r_n (x := (10 : Int32)) (l := 10) (h := 10) (by decide) (by decide)) (by decide) (by decide) (by decide) (by decide)) (by decide) (by decide) (by decide) (by decide)) (fun z6 h10 => ?_)
        refine tp_nl ?_
        refine tp_nn ?_
        refine tp_e (f_X10_within.eq_1 _ _ _) ?_
        refine tp_nif (fun c11 => ?_) (fun c11 => ?_)
        · skip
          have r12 : R32 (0) (0) z6 := r_lt1 (by decide) h10 (r_n (x := (1 : Int32)) (l := 1) (h := 1) (by decide) (by decide)) c11
          refine tp_nl ?_
          refine tp_nift (d_eq (r_n (x := (0 : Int32)) (l := 0) (h := 0) (by decide) (by decide)) (r_n (x := (0 : Int32)) (l := 0) (h := 0) (by decide) (by decide))) ?_
          refine tp_nl ?_
          refine tp_ift (d_eq (r_n (x := (0 : Int32)) (l := 0) (h := 0) (by decide) (by decide)) (r_n (x := (0 : Int32)) (l := 0) (h := 0) (by decide) (by decide))) ?_
          exact t_f_X5_surestQuestion_J39 ih hm h_v9_l3 (r_w (l' := 0) (h' := 899) r4 (by decide) (by decide))
        · skip
          have r13 : R32 (1) (9) z6 := r_nlt1 h10 (r_n (x := (1 : Int32)) (l := 1) (h := 1) (by decide) (by decide)) c11
          refine tp_nif (fun c14 => ?_) (fun c14 => ?_)
          · skip
            have r15 : R32 (0) (8) p_p.2.1 := r_lt1 (by decide) h_p_p_2_1 r13 c14
            refine tp_nl ?_
            refine tp_nift (d_eq (r_n (x := (0 : Int32)) (l := 0) (h := 0) (by decide) (by decide)) (r_n (x := (0 : Int32)) (l := 0) (h := 0) (by decide) (by decide))) ?_
            refine tp_nl ?_
            refine tp_ift (d_eq (r_n (x := (0 : Int32)) (l := 0) (h := 0) (by decide) (by decide)) (r_n (x := (0 : Int32)) (l := 0) (h := 0) (by decide) (by decide))) ?_
            exact t_f_X5_surestQuestion_J39 ih hm h_v9_l3 (r_w (l' := 0) (h' := 899) r4 (by decide) (by decide))
          · skip
            have r16 : R32 (1) (9) p_p.2.1 := r_nlt1 h_p_p_2_1 r13 c14
            refine tp_nl ?_
            refine tp_niff (d_ne2 (r_n (x := (1 : Int32)) (l := 1) (h := 1) (by decide) (by decide)) (r_n (x := (0 : Int32)) (l := 0) (h := 0) (by decide) (by decide)) (by decide)) ?_
            refine tp_nn ?_
            refine tp_e (f_X10_baitOf.eq_1 _) ?_
            refine tp_n (P := fun z => R32 (0) (9) z) (r_mod (c := 10) (h := 9) (y := (10 : Int32)) r4 (by decide) (by decide) (by decide) (by decide)) (fun o28 h17 => ?_)
            refine tp_nn ?_
            refine tp_e (f_X6_hasBait.eq_1 _ _) ?_
            refine tp_nn ?_
            refine tp_e (f_X10_within.eq_1 _ _ _) ?_
            refine tp_niff (d_nlt h17 (r_n (x := (0 : Int32)) (l := 0) (h := 0) (by decide) (by decide)) (by decide)) ?_
            refine tp_nif (fun c18 => ?_) (fun c18 => ?_)
            · skip
              refine tp_nl ?_
              refine tp_nl ?_
              refine tp_nift (d_eq (r_n (x := (0 : Int32)) (l := 0) (h := 0) (by decide) (by decide)) (r_n (x := (0 : Int32)) (l := 0) (h := 0) (by decide) (by decide))) ?_
              refine tp_nl ?_
              refine tp_ift (d_eq (r_n (x := (0 : Int32)) (l := 0) (h := 0) (by decide) (by decide)) (r_n (x := (0 : Int32)) (l := 0) (h := 0) (by decide) (by decide))) ?_
              exact t_f_X5_surestQuestion_J39 ih hm h_v9_l3 (r_w (l' := 0) (h' := 899) r4 (by decide) (by decide))
            · skip
              have r19 : R32 (0) (3) (p_p.2.2.2.2.1 - (1 : Int32)) := r_nlt1 (r_sub (l := -1) (h := 3) h_p_p_2_2_2_2_1 (r_n (x := (1 : Int32)) (l := 1) (h := 1) (by decide) (by decide)) (by decide) (by decide) (by decide) (by decide)) h17 c18
              have r20 : R32 (0) (3) o28 := r_nlt2 (r_sub (l := -1) (h := 3) h_p_p_2_2_2_2_1 (r_n (x := (1 : Int32)) (l := 1) (h := 1) (by decide) (by decide)) (by decide) (by decide) (by decide) (by decide)) h17 c18
              refine tp_nl ?_
              refine tp_nl ?_
              refine tp_niff (d_ne2 (r_n (x := (1 : Int32)) (l := 1) (h := 1) (by decide) (by decide)) (r_n (x := (0 : Int32)) (l := 0) (h := 0) (by decide) (by decide)) (by decide)) ?_
              refine tp_nl ?_
              refine tp_iff (d_ne2 (r_n (x := (1 : Int32)) (l := 1) (h := 1) (by decide) (by decide)) (r_n (x := (0 : Int32)) (l := 0) (h := 0) (by decide) (by decide)) (by decide)) ?_
              refine tp_b (t_f_X5_chance (r_w (l' := -1) (h' := 899) r4 (by decide) (by decide)) h_p_p_1 (r_w (l' := 0) (h' := 9) r16 (by decide) (by decide)) h_p_p_2_2_2_2_1 h_p_p_2_2_2_2_2_1 h_p_p_2_2_2_2_2_2_1 h_p_p_2_2_2_2_2_2_2_1) (fun o32 h21 => ?_)
              exact t_f_X5_surestQuestion_J39 ih hm h_v9_l3 (r_w (l' := 0) (h' := 899) r4 (by decide) (by decide))
theorem t_f_X5_surestQuestion {k2 : Int32} {p_p : TX6_p} {n_n : TX4_n} (h_p_p_1 : R32 (0) (8) p_p.1) (h_p_p_2_1 : R32 (0) (9) p_p.2.1) (h_p_p_2_2_2_2_1 : R32 (0) (4) p_p.2.2.2.2.1) (h_p_p_2_2_2_2_2_1 : R32 (0) (5) p_p.2.2.2.2.2.1) (h_p_p_2_2_2_2_2_2_1 : R32 (0) (6) p_p.2.2.2.2.2.2.1) (h_p_p_2_2_2_2_2_2_2_1 : R32 (0) (6) p_p.2.2.2.2.2.2.2.1) : TotP (f_X5_surestQuestion k2 p_p n_n) (fun (r : Int32) => R32 (-2) (899) r) := by
  unfold f_X5_surestQuestion
  exact t_f_X5_surestQuestion_L9 h_p_p_1 h_p_p_2_1 h_p_p_2_2_2_2_1 h_p_p_2_2_2_2_2_1 h_p_p_2_2_2_2_2_2_1 h_p_p_2_2_2_2_2_2_2_1 FU _ _ _ (r_w (l' := 0) (h' := 900) (r_n (x := (0 : Int32)) (l := 0) (h := 0) (by decide) (by decide)) (by decide) (by decide)) (r_w (l' := -2) (h' := 899) (r_n (x := (-2 : Int32)) (l := -2) (h := -2) (by decide) (by decide)) (by decide) (by decide)) (fu_up (r_w (l' := 0) (h' := 900) (r_n (x := (0 : Int32)) (l := 0) (h := 0) (by decide) (by decide)) (by decide) (by decide)) (by decide))
theorem t_f_X10_surest {k1 : Int32} {x_x : TX10_x} {p_p : TX6_p} {n_n : TX4_n} (h_p_p_1 : R32 (0) (8) p_p.1) (h_p_p_2_1 : R32 (0) (9) p_p.2.1) (h_p_p_2_2_2_2_1 : R32 (0) (4) p_p.2.2.2.2.1) (h_p_p_2_2_2_2_2_1 : R32 (0) (5) p_p.2.2.2.2.2.1) (h_p_p_2_2_2_2_2_2_1 : R32 (0) (6) p_p.2.2.2.2.2.2.1) (h_p_p_2_2_2_2_2_2_2_1 : R32 (0) (6) p_p.2.2.2.2.2.2.2.1) : TotP (f_X10_surest k1 x_x p_p n_n) (fun (r : Int32 × TX10_x) => R32 (-2) (899) r.1 ∧ R32 (0) (5) r.2.1) := by
  unfold f_X10_surest
  refine tp_b (t_f_X10_thereTrouble h_p_p_1 h_p_p_2_1 h_p_p_2_2_2_2_1 h_p_p_2_2_2_2_2_1 h_p_p_2_2_2_2_2_2_1 h_p_p_2_2_2_2_2_2_2_1) (fun o3 h1 => ?_)
  refine tp_e (f_X10_refused.eq_1 _ _) ?_
  refine tp_nif (fun c2 => ?_) (fun c2 => ?_)
  · skip
    have r3 : R32 (0) (0) o3 := r_eq1 (l := 0) (h := 0) (by decide) (by decide) h1 (r_n (x := (0 : Int32)) (l := 0) (h := 0) (by decide) (by decide)) c2
    refine tp_nl ?_
    refine tp_ift (d_eq (r_n (x := (0 : Int32)) (l := 0) (h := 0) (by decide) (by decide)) (r_n (x := (0 : Int32)) (l := 0) (h := 0) (by decide) (by decide))) ?_
    refine tp_b (t_f_X5_surestQuestion h_p_p_1 h_p_p_2_1 h_p_p_2_2_2_2_1 h_p_p_2_2_2_2_2_1 h_p_p_2_2_2_2_2_2_1 h_p_p_2_2_2_2_2_2_2_1) (fun o23 h4 => ?_)
    exact tp_s ⟨h4, (r_w (l' := 0) (h' := 5) r3 (by decide) (by decide))⟩
  · skip
    have r5 : R32 (1) (5) o3 := r_neL (by decide) h1 (r_n (x := (0 : Int32)) (l := 0) (h := 0) (by decide) (by decide)) c2
    refine tp_nl ?_
    refine tp_iff (d_ne2 (r_n (x := (1 : Int32)) (l := 1) (h := 1) (by decide) (by decide)) (r_n (x := (0 : Int32)) (l := 0) (h := 0) (by decide) (by decide)) (by decide)) ?_
    exact tp_s ⟨(r_w (l' := -2) (h' := 899) (r_n (x := (-1 : Int32)) (l := -1) (h := -1) (by decide) (by decide)) (by decide) (by decide)), (r_w (l' := 0) (h' := 5) r5 (by decide) (by decide))⟩
theorem t_f_X10_surestOdds {k1 : Int32} {k2 : Int32} {x_x : TX10_x} {p_p : TX6_p} {n_n : TX4_n} (h_p_p_1 : R32 (0) (8) p_p.1) (h_p_p_2_1 : R32 (0) (9) p_p.2.1) (h_p_p_2_2_2_2_1 : R32 (0) (4) p_p.2.2.2.2.1) (h_p_p_2_2_2_2_2_1 : R32 (0) (5) p_p.2.2.2.2.2.1) (h_p_p_2_2_2_2_2_2_1 : R32 (0) (6) p_p.2.2.2.2.2.2.1) (h_p_p_2_2_2_2_2_2_2_1 : R32 (0) (6) p_p.2.2.2.2.2.2.2.1) : TotP (f_X10_surestOdds k1 k2 x_x p_p n_n) (fun (r : Int64 × TX10_x) => R32 (0) (5) r.2.1) := by
  unfold f_X10_surestOdds
  refine tp_b (t_f_X10_thereTrouble h_p_p_1 h_p_p_2_1 h_p_p_2_2_2_2_1 h_p_p_2_2_2_2_2_1 h_p_p_2_2_2_2_2_2_1 h_p_p_2_2_2_2_2_2_2_1) (fun o3 h1 => ?_)
  refine tp_e (f_X10_refused.eq_1 _ _) ?_
  refine tp_nif (fun c2 => ?_) (fun c2 => ?_)
  · skip
    have r3 : R32 (0) (0) o3 := r_eq1 (l := 0) (h := 0) (by decide) (by decide) h1 (r_n (x := (0 : Int32)) (l := 0) (h := 0) (by decide) (by decide)) c2
    refine tp_nl ?_
    refine tp_ift (d_eq (r_n (x := (0 : Int32)) (l := 0) (h := 0) (by decide) (by decide)) (r_n (x := (0 : Int32)) (l := 0) (h := 0) (by decide) (by decide))) ?_
    refine tp_b (t_f_X5_surestQuestion h_p_p_1 h_p_p_2_1 h_p_p_2_2_2_2_1 h_p_p_2_2_2_2_2_1 h_p_p_2_2_2_2_2_2_1 h_p_p_2_2_2_2_2_2_2_1) (fun o25 h4 => ?_)
    refine tp_if (fun c5 => ?_) (fun c5 => ?_)
    · skip
      have r6 : R32 (-2) (-2) o25 := r_eq1 (l := -2) (h := -2) (by decide) (by decide) h4 (r_n (x := (-2 : Int32)) (l := -2) (h := -2) (by decide) (by decide)) c5
      refine tp_u (f_X10_surestOdds_J52.eq_1 _ _ _) ?_
      refine tp_b (t_f_X5_term ) (fun o53 h7 => ?_)
      exact tp_s (r_w (l' := 0) (h' := 5) r3 (by decide) (by decide))
    · skip
      have r8 : R32 (-1) (899) o25 := r_neL (by decide) h4 (r_n (x := (-2 : Int32)) (l := -2) (h := -2) (by decide) (by decide)) c5
      refine tp_b (t_f_X5_chance r8 h_p_p_1 h_p_p_2_1 h_p_p_2_2_2_2_1 h_p_p_2_2_2_2_2_1 h_p_p_2_2_2_2_2_2_1 h_p_p_2_2_2_2_2_2_2_1) (fun o49 h9 => ?_)
      refine tp_u (f_X10_surestOdds_J52.eq_1 _ _ _) ?_
      refine tp_b (t_f_X5_term ) (fun o53 h10 => ?_)
      exact tp_s (r_w (l' := 0) (h' := 5) r3 (by decide) (by decide))
  · skip
    have r11 : R32 (1) (5) o3 := r_neL (by decide) h1 (r_n (x := (0 : Int32)) (l := 0) (h := 0) (by decide) (by decide)) c2
    refine tp_nl ?_
    refine tp_iff (d_ne2 (r_n (x := (1 : Int32)) (l := 1) (h := 1) (by decide) (by decide)) (r_n (x := (0 : Int32)) (l := 0) (h := 0) (by decide) (by decide)) (by decide)) ?_
    exact tp_s (r_w (l' := 0) (h' := 5) r11 (by decide) (by decide))
theorem t_f_X5_worthiestQuestion_J52 {k8_ : Int32 → Int64 → Int32 → Option Int32} {v8_l5 : Int32} {v52_l3 : Int64} {v52_l2 : Int32} {N8 : Nat} (hk8 : ∀ (v8_l5 : Int32) (v8_l3 : Int64) (v8_l2 : Int32), R32 (0) (900) v8_l5 → R32 (-2) (899) v8_l2 → (900 : Int) - v8_l5.toInt < (N8 : Nat) → TotP (k8_ v8_l5 v8_l3 v8_l2) (fun (r : Int32) => R32 (-2) (899) r)) (hm8 : (900 : Int) - v8_l5.toInt < ((N8 + 1 : Nat) : Int)) (h_v8_l5 : R32 (0) (899) v8_l5) (h_v52_l2 : R32 (-2) (899) v52_l2) : TotP (f_X5_worthiestQuestion_J52 k8_ v8_l5 v52_l3 v52_l2) (fun (r : Int32) => R32 (-2) (899) r) := by
  unfold f_X5_worthiestQuestion_J52
  exact hk8 _ _ _ (r_w (l' := 0) (h' := 900) (r_add (l := 1) (h := 900) h_v8_l5 (r_n (x := (1 : Int32)) (l := 1) (h := 1) (by decide) (by decide)) (by decide) (by decide) (by decide) (by decide)) (by decide) (by decide)) h_v52_l2 (ms_up (y := (1 : Int32)) h_v8_l5 (by decide) (by decide) (by decide) hm8)
theorem t_f_X5_worthiestQuestion_J37 {k8_ : Int32 → Int64 → Int32 → Option Int32} {v8_l2 : Int32} {v8_l3 : Int64} {v8_l5 : Int32} {v37_t0 : Int64} {N8 : Nat} (hk8 : ∀ (v8_l5 : Int32) (v8_l3 : Int64) (v8_l2 : Int32), R32 (0) (900) v8_l5 → R32 (-2) (899) v8_l2 → (900 : Int) - v8_l5.toInt < (N8 : Nat) → TotP (k8_ v8_l5 v8_l3 v8_l2) (fun (r : Int32) => R32 (-2) (899) r)) (hm8 : (900 : Int) - v8_l5.toInt < ((N8 + 1 : Nat) : Int)) (h_v8_l2 : R32 (-2) (899) v8_l2) (h_v8_l5 : R32 (0) (899) v8_l5) : TotP (f_X5_worthiestQuestion_J37 k8_ v8_l2 v8_l3 v8_l5 v37_t0) (fun (r : Int32) => R32 (-2) (899) r) := by
  unfold f_X5_worthiestQuestion_J37
  refine tp_if (fun c1 => ?_) (fun c1 => ?_)
  · skip
    have r2 : R32 (-2147483648) (0) (lg_cmp v37_t0 v8_l3) := r_le1 (r_top _) (r_n (x := (0 : Int32)) (l := 0) (h := 0) (by decide) (by decide)) c1
    exact t_f_X5_worthiestQuestion_J52 hk8 hm8 h_v8_l5 h_v8_l2
  · skip
    have r3 : R32 (1) (2147483647) (lg_cmp v37_t0 v8_l3) := r_nle1 (by decide) (r_top _) (r_n (x := (0 : Int32)) (l := 0) (h := 0) (by decide) (by decide)) c1
    exact t_f_X5_worthiestQuestion_J52 hk8 hm8 h_v8_l5 (r_w (l' := -2) (h' := 899) h_v8_l5 (by decide) (by decide))
theorem t_f_X5_worthiestQuestion_L8 {p_p : TX6_p} {n_n : TX4_n} (h_p_p_1 : R32 (1) (8) p_p.1) (h_p_p_2_1 : R32 (0) (9) p_p.2.1) (h_p_p_2_2_2_2_1 : R32 (0) (4) p_p.2.2.2.2.1) (h_p_p_2_2_2_2_2_1 : R32 (0) (5) p_p.2.2.2.2.2.1) (h_p_p_2_2_2_2_2_2_1 : R32 (0) (6) p_p.2.2.2.2.2.2.1) (h_p_p_2_2_2_2_2_2_2_1 : R32 (0) (6) p_p.2.2.2.2.2.2.2.1) : ∀ (n : Nat) (v8_l5 : Int32) (v8_l3 : Int64) (v8_l2 : Int32), R32 (0) (900) v8_l5 → R32 (-2) (899) v8_l2 → (900 : Int) - v8_l5.toInt < (n : Int) → TotP (f_X5_worthiestQuestion_L8 p_p n_n n v8_l5 v8_l3 v8_l2) (fun (r : Int32) => R32 (-2) (899) r) := by
  intro n
  induction n with
  | zero =>
    intro v8_l5 v8_l3 v8_l2 h_v8_l5 h_v8_l2 hm
    exact (ms_0u h_v8_l5 hm).elim
  | succ n ih =>
    intro v8_l5 v8_l3 v8_l2 h_v8_l5 h_v8_l2 hm
    rw [f_X5_worthiestQuestion_L8]
    refine tp_e (f_X6_questionBound.eq_1 _) ?_
    refine tp_n (P := fun z => R32 (100) (800) z) (r_mul (l := 100) (h := 800) (r_n (x := (100 : Int32)) (l := 100) (h := 100) (by decide) (by decide)) h_p_p_1 (by decide) (by decide) (by decide) (by decide) (by decide)) (fun o11 h1 => ?_)
    refine tp_if (fun c2 => ?_) (fun c2 => ?_)
    · skip
      have r3 : R32 (100) (900) v8_l5 := r_le2 h1 h_v8_l5 c2
      exact tp_s h_v8_l2
    · skip
      have r4 : R32 (0) (799) v8_l5 := r_nle2 (by decide) h1 h_v8_l5 c2
      refine tp_e (f_X6_hasQuestion.eq_1 _ _) ?_
      refine tp_nn ?_
      refine tp_e (f_X10_spotOf.eq_1 _) ?_
      refine tp_n (P := fun z => R32 (0) (7) z) (r_div (l := 0) (h := 7) r4 (r_n (x := (100 : Int32)) (l := 100) (h := 100) (by decide) (by decide)) (by decide) (by decide) (by decide) (by decide)) (fun o2 h5 => ?_)
      refine tp_nn ?_
      refine tp_e (f_X6_hasSpot.eq_1 _ _) ?_
      refine tp_nn ?_
      refine tp_e (f_X10_within.eq_1 _ _ _) ?_
      refine tp_niff (d_nlt h5 (r_n (x := (0 : Int32)) (l := 0) (h := 0) (by decide) (by decide)) (by decide)) ?_
      refine tp_nif (fun c6 => ?_) (fun c6 => ?_)
      · skip
        have r7 : R32 (0) (6) (p_p.1 - (1 : Int32)) := r_lt1 (by decide) (r_sub (l := 0) (h := 7) h_p_p_1 (r_n (x := (1 : Int32)) (l := 1) (h := 1) (by decide) (by decide)) (by decide) (by decide) (by decide) (by decide)) h5 c6
        have r8 : R32 (1) (7) o2 := r_lt2 (by decide) (r_sub (l := 0) (h := 7) h_p_p_1 (r_n (x := (1 : Int32)) (l := 1) (h := 1) (by decide) (by decide)) (by decide) (by decide) (by decide) (by decide)) h5 c6
        refine tp_nl ?_
        refine tp_nl ?_
        refine tp_nift (d_eq (r_n (x := (0 : Int32)) (l := 0) (h := 0) (by decide) (by decide)) (r_n (x := (0 : Int32)) (l := 0) (h := 0) (by decide) (by decide))) ?_
        refine tp_nl ?_
        refine tp_ift (d_eq (r_n (x := (0 : Int32)) (l := 0) (h := 0) (by decide) (by decide)) (r_n (x := (0 : Int32)) (l := 0) (h := 0) (by decide) (by decide))) ?_
        exact t_f_X5_worthiestQuestion_J37 ih hm h_v8_l2 (r_w (l' := 0) (h' := 899) r4 (by decide) (by decide))
      · skip
        refine tp_nl ?_
        refine tp_nl ?_
        refine tp_niff (d_ne2 (r_n (x := (1 : Int32)) (l := 1) (h := 1) (by decide) (by decide)) (r_n (x := (0 : Int32)) (l := 0) (h := 0) (by decide) (by decide)) (by decide)) ?_
        refine tp_nn ?_
        refine tp_e (f_X10_fathomsOf.eq_1 _) ?_
        refine tp_nn ?_
        refine tp_n (P := fun z => R32 (0) (9) z) (r_mod (c := 10) (h := 9) (y := (10 : Int32)) (r_div (l := 0) (h := 79) r4 (r_n (x := (10 : Int32)) (l := 10) (h := 10) (by decide) (by decide)) (by decide) (by decide) (by decide) (by decide)) (by decide) (by decide) (by decide) (by decide)) (fun z6 h9 => ?_)
        refine tp_nl ?_
        refine tp_nn ?_
        refine tp_e (f_X10_within.eq_1 _ _ _) ?_
        refine tp_nif (fun c10 => ?_) (fun c10 => ?_)
        · skip
          have r11 : R32 (0) (0) z6 := r_lt1 (by decide) h9 (r_n (x := (1 : Int32)) (l := 1) (h := 1) (by decide) (by decide)) c10
          refine tp_nl ?_
          refine tp_nift (d_eq (r_n (x := (0 : Int32)) (l := 0) (h := 0) (by decide) (by decide)) (r_n (x := (0 : Int32)) (l := 0) (h := 0) (by decide) (by decide))) ?_
          refine tp_nl ?_
          refine tp_ift (d_eq (r_n (x := (0 : Int32)) (l := 0) (h := 0) (by decide) (by decide)) (r_n (x := (0 : Int32)) (l := 0) (h := 0) (by decide) (by decide))) ?_
          exact t_f_X5_worthiestQuestion_J37 ih hm h_v8_l2 (r_w (l' := 0) (h' := 899) r4 (by decide) (by decide))
        · skip
          have r12 : R32 (1) (9) z6 := r_nlt1 h9 (r_n (x := (1 : Int32)) (l := 1) (h := 1) (by decide) (by decide)) c10
          refine tp_nif (fun c13 => ?_) (fun c13 => ?_)
          · skip
            have r14 : R32 (0) (8) p_p.2.1 := r_lt1 (by decide) h_p_p_2_1 r12 c13
            refine tp_nl ?_
            refine tp_nift (d_eq (r_n (x := (0 : Int32)) (l := 0) (h := 0) (by decide) (by decide)) (r_n (x := (0 : Int32)) (l := 0) (h := 0) (by decide) (by decide))) ?_
            refine tp_nl ?_
            refine tp_ift (d_eq (r_n (x := (0 : Int32)) (l := 0) (h := 0) (by decide) (by decide)) (r_n (x := (0 : Int32)) (l := 0) (h := 0) (by decide) (by decide))) ?_
            exact t_f_X5_worthiestQuestion_J37 ih hm h_v8_l2 (r_w (l' := 0) (h' := 899) r4 (by decide) (by decide))
          · skip
            have r15 : R32 (1) (9) p_p.2.1 := r_nlt1 h_p_p_2_1 r12 c13
            refine tp_nl ?_
            refine tp_niff (d_ne2 (r_n (x := (1 : Int32)) (l := 1) (h := 1) (by decide) (by decide)) (r_n (x := (0 : Int32)) (l := 0) (h := 0) (by decide) (by decide)) (by decide)) ?_
            refine tp_nn ?_
            refine tp_e (f_X10_baitOf.eq_1 _) ?_
            refine tp_n (P := fun z => R32 (0) (9) z) (r_mod (c := 10) (h := 9) (y := (10 : Int32)) r4 (by decide) (by decide) (by decide) (by decide)) (fun o28 h16 => ?_)
            refine tp_nn ?_
            refine tp_e (f_X6_hasBait.eq_1 _ _) ?_
            refine tp_nn ?_
            refine tp_e (f_X10_within.eq_1 _ _ _) ?_
            refine tp_niff (d_nlt h16 (r_n (x := (0 : Int32)) (l := 0) (h := 0) (by decide) (by decide)) (by decide)) ?_
            refine tp_nif (fun c17 => ?_) (fun c17 => ?_)
            · skip
              refine tp_nl ?_
              refine tp_nl ?_
              refine tp_nift (d_eq (r_n (x := (0 : Int32)) (l := 0) (h := 0) (by decide) (by decide)) (r_n (x := (0 : Int32)) (l := 0) (h := 0) (by decide) (by decide))) ?_
              refine tp_nl ?_
              refine tp_ift (d_eq (r_n (x := (0 : Int32)) (l := 0) (h := 0) (by decide) (by decide)) (r_n (x := (0 : Int32)) (l := 0) (h := 0) (by decide) (by decide))) ?_
              exact t_f_X5_worthiestQuestion_J37 ih hm h_v8_l2 (r_w (l' := 0) (h' := 899) r4 (by decide) (by decide))
            · skip
              have r18 : R32 (0) (3) (p_p.2.2.2.2.1 - (1 : Int32)) := r_nlt1 (r_sub (l := -1) (h := 3) h_p_p_2_2_2_2_1 (r_n (x := (1 : Int32)) (l := 1) (h := 1) (by decide) (by decide)) (by decide) (by decide) (by decide) (by decide)) h16 c17
              have r19 : R32 (0) (3) o28 := r_nlt2 (r_sub (l := -1) (h := 3) h_p_p_2_2_2_2_1 (r_n (x := (1 : Int32)) (l := 1) (h := 1) (by decide) (by decide)) (by decide) (by decide) (by decide) (by decide)) h16 c17
              refine tp_nl ?_
              refine tp_nl ?_
              refine tp_niff (d_ne2 (r_n (x := (1 : Int32)) (l := 1) (h := 1) (by decide) (by decide)) (r_n (x := (0 : Int32)) (l := 0) (h := 0) (by decide) (by decide)) (by decide)) ?_
              refine tp_nl ?_
              refine tp_iff (d_ne2 (r_n (x := (1 : Int32)) (l := 1) (h := 1) (by decide) (by decide)) (r_n (x := (0 : Int32)) (l := 0) (h := 0) (by decide) (by decide)) (by decide)) ?_
              refine tp_b (t_f_X5_meanWorth r4 (r_w (l' := 0) (h' := 8) h_p_p_1 (by decide) (by decide)) r15 h_p_p_2_2_2_2_1 h_p_p_2_2_2_2_2_1 h_p_p_2_2_2_2_2_2_1 h_p_p_2_2_2_2_2_2_2_1) (fun o30 h20 => ?_)
              exact t_f_X5_worthiestQuestion_J37 ih hm h_v8_l2 (r_w (l' := 0) (h' := 899) r4 (by decide) (by decide))
theorem t_f_X5_worthiestQuestion {p_p : TX6_p} {n_n : TX4_n} (h_p_p_1 : R32 (1) (8) p_p.1) (h_p_p_2_1 : R32 (0) (9) p_p.2.1) (h_p_p_2_2_2_2_1 : R32 (0) (4) p_p.2.2.2.2.1) (h_p_p_2_2_2_2_2_1 : R32 (0) (5) p_p.2.2.2.2.2.1) (h_p_p_2_2_2_2_2_2_1 : R32 (0) (6) p_p.2.2.2.2.2.2.1) (h_p_p_2_2_2_2_2_2_2_1 : R32 (0) (6) p_p.2.2.2.2.2.2.2.1) : TotP (f_X5_worthiestQuestion p_p n_n) (fun (r : Int32) => R32 (-2) (899) r) := by
  unfold f_X5_worthiestQuestion
  exact t_f_X5_worthiestQuestion_L8 h_p_p_1 h_p_p_2_1 h_p_p_2_2_2_2_1 h_p_p_2_2_2_2_2_1 h_p_p_2_2_2_2_2_2_1 h_p_p_2_2_2_2_2_2_2_1 FU _ _ _ (r_w (l' := 0) (h' := 900) (r_n (x := (0 : Int32)) (l := 0) (h := 0) (by decide) (by decide)) (by decide) (by decide)) (r_w (l' := -2) (h' := 899) (r_n (x := (-2 : Int32)) (l := -2) (h := -2) (by decide) (by decide)) (by decide) (by decide)) (fu_up (r_w (l' := 0) (h' := 900) (r_n (x := (0 : Int32)) (l := 0) (h := 0) (by decide) (by decide)) (by decide) (by decide)) (by decide))
theorem t_f_X10_best {x_x : TX10_x} {p_p : TX6_p} {n_n : TX4_n} (h_p_p_1 : R32 (0) (8) p_p.1) (h_p_p_2_1 : R32 (0) (9) p_p.2.1) (h_p_p_2_2_2_2_1 : R32 (0) (4) p_p.2.2.2.2.1) (h_p_p_2_2_2_2_2_1 : R32 (0) (5) p_p.2.2.2.2.2.1) (h_p_p_2_2_2_2_2_2_1 : R32 (0) (6) p_p.2.2.2.2.2.2.1) (h_p_p_2_2_2_2_2_2_2_1 : R32 (0) (6) p_p.2.2.2.2.2.2.2.1) : TotP (f_X10_best x_x p_p n_n) (fun (r : Int32 × TX10_x) => R32 (-2) (899) r.1 ∧ R32 (0) (1) r.2.1) := by
  unfold f_X10_best
  refine tp_e (f_X10_pierTrouble.eq_1 _) ?_
  refine tp_nif (fun c1 => ?_) (fun c1 => ?_)
  · skip
    have r2 : R32 (0) (0) p_p.1 := r_eq1 (l := 0) (h := 0) (by decide) (by decide) h_p_p_1 (r_n (x := (0 : Int32)) (l := 0) (h := 0) (by decide) (by decide)) c1
    refine tp_nl ?_
    refine tp_e (f_X10_refused.eq_1 _ _) ?_
    refine tp_niff (d_ne2 (r_n (x := (1 : Int32)) (l := 1) (h := 1) (by decide) (by decide)) (r_n (x := (0 : Int32)) (l := 0) (h := 0) (by decide) (by decide)) (by decide)) ?_
    refine tp_nl ?_
    refine tp_iff (d_ne2 (r_n (x := (1 : Int32)) (l := 1) (h := 1) (by decide) (by decide)) (r_n (x := (0 : Int32)) (l := 0) (h := 0) (by decide) (by decide)) (by decide)) ?_
    exact tp_s ⟨(r_w (l' := -2) (h' := 899) (r_n (x := (-1 : Int32)) (l := -1) (h := -1) (by decide) (by decide)) (by decide) (by decide)), (r_w (l' := 0) (h' := 1) (r_n (x := (1 : Int32)) (l := 1) (h := 1) (by decide) (by decide)) (by decide) (by decide))⟩
  · skip
    have r3 : R32 (1) (8) p_p.1 := r_neL (by decide) h_p_p_1 (r_n (x := (0 : Int32)) (l := 0) (h := 0) (by decide) (by decide)) c1
    refine tp_nl ?_
    refine tp_e (f_X10_refused.eq_1 _ _) ?_
    refine tp_nift (d_eq (r_n (x := (0 : Int32)) (l := 0) (h := 0) (by decide) (by decide)) (r_n (x := (0 : Int32)) (l := 0) (h := 0) (by decide) (by decide))) ?_
    refine tp_nl ?_
    refine tp_ift (d_eq (r_n (x := (0 : Int32)) (l := 0) (h := 0) (by decide) (by decide)) (r_n (x := (0 : Int32)) (l := 0) (h := 0) (by decide) (by decide))) ?_
    refine tp_b (t_f_X5_worthiestQuestion r3 h_p_p_2_1 h_p_p_2_2_2_2_1 h_p_p_2_2_2_2_2_1 h_p_p_2_2_2_2_2_2_1 h_p_p_2_2_2_2_2_2_2_1) (fun o21 h4 => ?_)
    exact tp_s ⟨h4, (r_w (l' := 0) (h' := 1) (r_n (x := (0 : Int32)) (l := 0) (h := 0) (by decide) (by decide)) (by decide) (by decide))⟩
