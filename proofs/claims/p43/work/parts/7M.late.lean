/-! the functions answer: those that call seats -/
theorem t_f_X12_seatings {m_t : TX12_t} {m_z : TX12_z} {q_q : TX11_q} (h_q_q_1 : R32 (2) (8) q_q.1) (h_q_q_2_1 : R32 (1) (9) q_q.2.1) (h_q_q_2_2_2_2_1 : R32 (1) (4) q_q.2.2.2.2.1) (h_q_q_2_2_2_2_2_1 : R32 (0) (5) q_q.2.2.2.2.2.1) (h_q_q_2_2_2_2_2_2_1 : R32 (0) (6) q_q.2.2.2.2.2.2.1) (h_q_q_2_2_2_2_2_2_2_1 : R32 (0) (6) q_q.2.2.2.2.2.2.2.1) : TotP (f_X12_seatings m_t m_z q_q) (fun (r : Int32 × TX12_t × TX12_z) => R32 (0) (0) r.2.1.1 ∧ R32 (0) (6) r.2.1.2.1 ∧ R32 (-1) (-1) r.2.1.2.2) := by
  unfold f_X12_seatings
  refine tp_if (fun c1 => ?_) (fun c1 => ?_)
  · skip
    have r2 : R32 (0) (0) q_q.2.2.2.2.2.1 := r_eq1 (l := 0) (h := 0) (by decide) (by decide) h_q_q_2_2_2_2_2_1 (r_n (x := (0 : Int32)) (l := 0) (h := 0) (by decide) (by decide)) c1
    refine tp_e (f_X12_refused.eq_1 _ _) ?_
    refine tp_nl ?_
    exact tp_s ⟨(r_n (x := (0 : Int32)) (l := 0) (h := 0) (by decide) (by decide)), (r_w (l' := 0) (h' := 6) (r_n (x := (6 : Int32)) (l := 6) (h := 6) (by decide) (by decide)) (by decide) (by decide)), (r_n (x := (-1 : Int32)) (l := -1) (h := -1) (by decide) (by decide))⟩
  · skip
    have r3 : R32 (1) (5) q_q.2.2.2.2.2.1 := r_neL (by decide) h_q_q_2_2_2_2_2_1 (r_n (x := (0 : Int32)) (l := 0) (h := 0) (by decide) (by decide)) c1
    refine tp_e (f_X12_allAskers.eq_1 _) ?_
    refine tp_n (P := fun z => R32 (1) (31) z) (r_sub (l := 1) (h := 31) (r_shl 1 5 (l := 2) (h := 32) r3 (by decide) (by decide) (by decide)) (r_n (x := (1 : Int32)) (l := 1) (h := 1) (by decide) (by decide)) (by decide) (by decide) (by decide) (by decide)) (fun o37 h4 => ?_)
    refine tp_b (t_f_X12_seats h4 h_q_q_1 h_q_q_2_1 h_q_q_2_2_2_2_1 (r_w (l' := 0) (h' := 5) r3 (by decide) (by decide)) h_q_q_2_2_2_2_2_2_1 h_q_q_2_2_2_2_2_2_2_1) (fun o40 h5 => ?_)
    refine tp_e (f_X12_good.eq_1 _ _) ?_
    refine tp_nl ?_
    exact tp_s ⟨(r_n (x := (0 : Int32)) (l := 0) (h := 0) (by decide) (by decide)), (r_w (l' := 0) (h' := 6) (r_n (x := (0 : Int32)) (l := 0) (h := 0) (by decide) (by decide)) (by decide) (by decide)), (r_n (x := (-1 : Int32)) (l := -1) (h := -1) (by decide) (by decide))⟩
theorem t_f_X12_seat {k1 : Int32} {m_t : TX12_t} {m_z : TX12_z} {q_q : TX11_q} (h_q_q_1 : R32 (2) (8) q_q.1) (h_q_q_2_1 : R32 (1) (9) q_q.2.1) (h_q_q_2_2_2_2_1 : R32 (1) (4) q_q.2.2.2.2.1) (h_q_q_2_2_2_2_2_1 : R32 (0) (5) q_q.2.2.2.2.2.1) (h_q_q_2_2_2_2_2_2_1 : R32 (0) (6) q_q.2.2.2.2.2.2.1) (h_q_q_2_2_2_2_2_2_2_1 : R32 (0) (6) q_q.2.2.2.2.2.2.2.1) : TotP (f_X12_seat k1 m_t m_z q_q) (fun (r : Int32 × TX12_t × TX12_z) => R32 (0) (0) r.2.1.1 ∧ R32 (0) (1) r.2.1.2.1 ∧ R32 (-1) (-1) r.2.1.2.2) := by
  unfold f_X12_seat
  refine tp_e (f_X12_isAsker.eq_1 _ _) ?_
  refine tp_nif (fun c1 => ?_) (fun c1 => ?_)
  · skip
    have r2 : R32 (-2147483648) (-1) k1 := r_lt1 (by decide) (r_top _) (r_n (x := (0 : Int32)) (l := 0) (h := 0) (by decide) (by decide)) c1
    refine tp_nl ?_
    refine tp_ift (d_eq (r_n (x := (0 : Int32)) (l := 0) (h := 0) (by decide) (by decide)) (r_n (x := (0 : Int32)) (l := 0) (h := 0) (by decide) (by decide))) ?_
    refine tp_e (f_X12_refused.eq_1 _ _) ?_
    refine tp_nl ?_
    exact tp_s ⟨(r_n (x := (0 : Int32)) (l := 0) (h := 0) (by decide) (by decide)), (r_w (l' := 0) (h' := 1) (r_n (x := (1 : Int32)) (l := 1) (h := 1) (by decide) (by decide)) (by decide) (by decide)), (r_n (x := (-1 : Int32)) (l := -1) (h := -1) (by decide) (by decide))⟩
  · skip
    have r3 : R32 (0) (2147483647) k1 := r_nlt1 (r_top _) (r_n (x := (0 : Int32)) (l := 0) (h := 0) (by decide) (by decide)) c1
    refine tp_nif (fun c4 => ?_) (fun c4 => ?_)
    · skip
      refine tp_nl ?_
      refine tp_ift (d_eq (r_n (x := (0 : Int32)) (l := 0) (h := 0) (by decide) (by decide)) (r_n (x := (0 : Int32)) (l := 0) (h := 0) (by decide) (by decide))) ?_
      refine tp_e (f_X12_refused.eq_1 _ _) ?_
      refine tp_nl ?_
      exact tp_s ⟨(r_n (x := (0 : Int32)) (l := 0) (h := 0) (by decide) (by decide)), (r_w (l' := 0) (h' := 1) (r_n (x := (1 : Int32)) (l := 1) (h := 1) (by decide) (by decide)) (by decide) (by decide)), (r_n (x := (-1 : Int32)) (l := -1) (h := -1) (by decide) (by decide))⟩
    · skip
      have r5 : R32 (1) (5) q_q.2.2.2.2.2.1 := r_nle1 (by decide) h_q_q_2_2_2_2_2_1 r3 c4
      have r6 : R32 (0) (4) k1 := r_nle2 (by decide) h_q_q_2_2_2_2_2_1 r3 c4
      refine tp_nl ?_
      refine tp_iff (d_ne2 (r_n (x := (1 : Int32)) (l := 1) (h := 1) (by decide) (by decide)) (r_n (x := (0 : Int32)) (l := 0) (h := 0) (by decide) (by decide)) (by decide)) ?_
      refine tp_e (f_X12_allAskers.eq_1 _) ?_
      refine tp_n (P := fun z => R32 (1) (31) z) (r_sub (l := 1) (h := 31) (r_shl 1 5 (l := 2) (h := 32) r5 (by decide) (by decide) (by decide)) (r_n (x := (1 : Int32)) (l := 1) (h := 1) (by decide) (by decide)) (by decide) (by decide) (by decide) (by decide)) (fun o21 h7 => ?_)
      refine tp_b (t_f_X12_seats h7 h_q_q_1 h_q_q_2_1 h_q_q_2_2_2_2_1 (r_w (l' := 0) (h' := 5) r5 (by decide) (by decide)) h_q_q_2_2_2_2_2_2_1 h_q_q_2_2_2_2_2_2_2_1) (fun o24 h8 => ?_)
      refine tp_if (fun c9 => ?_) (fun c9 => ?_)
      · skip
        have r10 : R32 (0) (0) o24.2.2 := r_eq1 (l := 0) (h := 0) (by decide) (by decide) (r_top _) (r_n (x := (0 : Int32)) (l := 0) (h := 0) (by decide) (by decide)) c9
        exact t_f_X12_seat_J46 
      · skip
        refine tp_g r6 (by decide) (by decide) ?_
        exact t_f_X12_seat_J46 
theorem t_f_X12_mostSeated_L22 {m_t : TX12_t} {q_q : TX11_q} (h_q_q_1 : R32 (2) (8) q_q.1) (h_q_q_2_1 : R32 (1) (9) q_q.2.1) (h_q_q_2_2_2_2_1 : R32 (1) (4) q_q.2.2.2.2.1) (h_q_q_2_2_2_2_2_1 : R32 (0) (5) q_q.2.2.2.2.2.1) (h_q_q_2_2_2_2_2_2_1 : R32 (0) (6) q_q.2.2.2.2.2.2.1) (h_q_q_2_2_2_2_2_2_2_1 : R32 (0) (6) q_q.2.2.2.2.2.2.2.1) : ∀ (n : Nat) (v22_l2 : Int32) (v22_l1 : Int32) (v22_m_z : TX12_z), R32 (1) (32) v22_l2 → R32 (0) (31) v22_l1 → (32 : Int) - v22_l2.toInt < (n : Int) → TotP (f_X12_mostSeated_L22 m_t q_q n v22_l2 v22_l1 v22_m_z) (fun (r : Int32 × TX12_t × TX12_z) => R32 (0) (31) r.1 ∧ R32 (0) (0) r.2.1.1 ∧ R32 (0) (0) r.2.1.2.1 ∧ R32 (-1) (-1) r.2.1.2.2) := by
  intro n
  induction n with
  | zero =>
    intro v22_l2 v22_l1 v22_m_z h_v22_l2 h_v22_l1 hm
    exact (ms_0u h_v22_l2 hm).elim
  | succ n ih =>
    intro v22_l2 v22_l1 v22_m_z h_v22_l2 h_v22_l1 hm
    rw [f_X12_mostSeated_L22]
    refine tp_e (f_X12_allAskers.eq_1 _) ?_
    refine tp_n (P := fun z => R32 (0) (31) z) (r_sub (l := 0) (h := 31) (r_shl 0 5 (l := 1) (h := 32) h_q_q_2_2_2_2_2_1 (by decide) (by decide) (by decide)) (r_n (x := (1 : Int32)) (l := 1) (h := 1) (by decide) (by decide)) (by decide) (by decide) (by decide) (by decide)) (fun o24 h1 => ?_)
    refine tp_if (fun c2 => ?_) (fun c2 => ?_)
    · skip
      refine tp_e (f_X12_good.eq_1 _ _) ?_
      refine tp_nl ?_
      exact tp_s ⟨h_v22_l1, (r_n (x := (0 : Int32)) (l := 0) (h := 0) (by decide) (by decide)), (r_n (x := (0 : Int32)) (l := 0) (h := 0) (by decide) (by decide)), (r_n (x := (-1 : Int32)) (l := -1) (h := -1) (by decide) (by decide))⟩
    · skip
      have r3 : R32 (1) (31) o24 := r_nlt1 h1 h_v22_l2 c2
      have r4 : R32 (1) (31) v22_l2 := r_nlt2 h1 h_v22_l2 c2
      refine tp_b (t_f_X12_bits (r_w (l' := 0) (h' := 63) r4 (by decide) (by decide))) (fun o31 h5 => ?_)
      refine tp_b (t_f_X12_bits (r_w (l' := 0) (h' := 63) h_v22_l1 (by decide) (by decide))) (fun o35 h6 => ?_)
      refine tp_if (fun c7 => ?_) (fun c7 => ?_)
      · skip
        have r8 : R32 (-2147483648) (2147483646) o35 := r_lt1 (by decide) (r_top _) (r_top _) c7
        have r9 : R32 (-2147483647) (2147483647) o31 := r_lt2 (by decide) (r_top _) (r_top _) c7
        refine tp_b (t_f_X12_seats r4 h_q_q_1 h_q_q_2_1 h_q_q_2_2_2_2_1 h_q_q_2_2_2_2_2_1 h_q_q_2_2_2_2_2_2_1 h_q_q_2_2_2_2_2_2_2_1) (fun o46 h10 => ?_)
        refine tp_if (fun c11 => ?_) (fun c11 => ?_)
        · skip
          have r12 : R32 (-2147483648) (0) o46.2.2 := r_le1 (r_top _) (r_n (x := (0 : Int32)) (l := 0) (h := 0) (by decide) (by decide)) c11
          exact t_f_X12_mostSeated_J58 ih hm r4 h_v22_l1
        · skip
          have r13 : R32 (1) (2147483647) o46.2.2 := r_nle1 (by decide) (r_top _) (r_n (x := (0 : Int32)) (l := 0) (h := 0) (by decide) (by decide)) c11
          exact t_f_X12_mostSeated_J58 ih hm r4 (r_w (l' := 0) (h' := 31) r4 (by decide) (by decide))
      · skip
        exact t_f_X12_mostSeated_J58 ih hm r4 h_v22_l1
theorem t_f_X12_mostSeated {m_t : TX12_t} {m_z : TX12_z} {q_q : TX11_q} (h_q_q_1 : R32 (2) (8) q_q.1) (h_q_q_2_1 : R32 (1) (9) q_q.2.1) (h_q_q_2_2_2_2_1 : R32 (1) (4) q_q.2.2.2.2.1) (h_q_q_2_2_2_2_2_1 : R32 (0) (5) q_q.2.2.2.2.2.1) (h_q_q_2_2_2_2_2_2_1 : R32 (0) (6) q_q.2.2.2.2.2.2.1) (h_q_q_2_2_2_2_2_2_2_1 : R32 (0) (6) q_q.2.2.2.2.2.2.2.1) : TotP (f_X12_mostSeated m_t m_z q_q) (fun (r : Int32 × TX12_t × TX12_z) => R32 (0) (31) r.1 ∧ R32 (0) (0) r.2.1.1 ∧ R32 (0) (0) r.2.1.2.1 ∧ R32 (-1) (-1) r.2.1.2.2) := by
  unfold f_X12_mostSeated
  exact t_f_X12_mostSeated_L22 h_q_q_1 h_q_q_2_1 h_q_q_2_2_2_2_1 h_q_q_2_2_2_2_2_1 h_q_q_2_2_2_2_2_2_1 h_q_q_2_2_2_2_2_2_2_1 FU _ _ _ (r_w (l' := 1) (h' := 32) (r_n (x := (1 : Int32)) (l := 1) (h := 1) (by decide) (by decide)) (by decide) (by decide)) (r_w (l' := 0) (h' := 31) (r_n (x := (0 : Int32)) (l := 0) (h := 0) (by decide) (by decide)) (by decide) (by decide)) (fu_up (r_w (l' := 1) (h' := 32) (r_n (x := (1 : Int32)) (l := 1) (h := 1) (by decide) (by decide)) (by decide) (by decide)) (by decide))
theorem t_f_X12_led_J51 {k9_ : Int32 → Int32 → Option (Int32 × TX12_t)} {v9_l3 : Int32} {v51_l2 : Int32} {N9 : Nat} (hk9 : ∀ (v9_l3 : Int32) (v9_l2 : Int32), R32 (0) (6) v9_l3 → (6 : Int) - v9_l3.toInt < (N9 : Nat) → TotP (k9_ v9_l3 v9_l2) (fun (r : Int32 × TX12_t) => R32 (0) (5) r.1 ∧ R32 (0) (1) r.2.1)) (hm9 : (6 : Int) - v9_l3.toInt < ((N9 + 1 : Nat) : Int)) (h_v9_l3 : R32 (0) (5) v9_l3) : TotP (f_X12_led_J51 k9_ v9_l3 v51_l2) (fun (r : Int32 × TX12_t) => R32 (0) (5) r.1 ∧ R32 (0) (1) r.2.1) := by
  unfold f_X12_led_J51
  exact hk9 _ _ (r_w (l' := 0) (h' := 6) (r_add (l := 1) (h := 6) h_v9_l3 (r_n (x := (1 : Int32)) (l := 1) (h := 1) (by decide) (by decide)) (by decide) (by decide) (by decide) (by decide)) (by decide) (by decide)) (ms_up (y := (1 : Int32)) h_v9_l3 (by decide) (by decide) (by decide) hm9)
theorem t_f_X12_led_L9 {k1 : Int32} {m_t : TX12_t} {m_v : TX12_v} {q_q : TX11_q} (h_q_q_1 : R32 (2) (8) q_q.1) (h_q_q_2_1 : R32 (1) (9) q_q.2.1) (h_q_q_2_2_2_2_1 : R32 (1) (4) q_q.2.2.2.2.1) (h_q_q_2_2_2_2_2_1 : R32 (0) (5) q_q.2.2.2.2.2.1) (h_q_q_2_2_2_2_2_2_1 : R32 (0) (6) q_q.2.2.2.2.2.2.1) (h_q_q_2_2_2_2_2_2_2_1 : R32 (0) (6) q_q.2.2.2.2.2.2.2.1) : ∀ (n : Nat) (v9_l3 : Int32) (v9_l2 : Int32), R32 (0) (6) v9_l3 → (6 : Int) - v9_l3.toInt < (n : Int) → TotP (f_X12_led_L9 k1 m_t m_v q_q n v9_l3 v9_l2) (fun (r : Int32 × TX12_t) => R32 (0) (5) r.1 ∧ R32 (0) (1) r.2.1) := by
  intro n
  induction n with
  | zero =>
    intro v9_l3 v9_l2 h_v9_l3 hm
    exact (ms_0u h_v9_l3 hm).elim
  | succ n ih =>
    intro v9_l3 v9_l2 h_v9_l3 hm
    rw [f_X12_led_L9]
    refine tp_if (fun c1 => ?_) (fun c1 => ?_)
    · skip
      exact tp_s ⟨(r_w (l' := 0) (h' := 5) (r_n (x := (0 : Int32)) (l := 0) (h := 0) (by decide) (by decide)) (by decide) (by decide)), (r_w (l' := 0) (h' := 1) (r_n (x := (1 : Int32)) (l := 1) (h := 1) (by decide) (by decide)) (by decide) (by decide))⟩
    · skip
      have r2 : R32 (1) (6) q_q.2.2.2.2.2.2.1 := r_nle1 (by decide) h_q_q_2_2_2_2_2_2_1 h_v9_l3 c1
      have r3 : R32 (0) (5) v9_l3 := r_nle2 (by decide) h_q_q_2_2_2_2_2_2_1 h_v9_l3 c1
      refine tp_g (r_add (l := 0) (h := 5) (r_n (x := (0 : Int32)) (l := 0) (h := 0) (by decide) (by decide)) r3 (by decide) (by decide) (by decide) (by decide)) (by decide) (by decide) ?_
      refine tp_if (fun c4 => ?_) (fun c4 => ?_)
      · skip
        have r5 : R32 (0) (0) (m_v (((0 : Int32) + v9_l3)).toNatClampNeg) := r_eq1 (l := 0) (h := 0) (by decide) (by decide) (r_top _) (r_n (x := (0 : Int32)) (l := 0) (h := 0) (by decide) (by decide)) c4
        exact t_f_X12_led_J51 ih hm r3
      · skip
        refine tp_if (fun c6 => ?_) (fun c6 => ?_)
        · skip
          exact tp_s ⟨r3, (r_w (l' := 0) (h' := 1) (r_n (x := (0 : Int32)) (l := 0) (h := 0) (by decide) (by decide)) (by decide) (by decide))⟩
        · skip
          exact t_f_X12_led_J51 ih hm r3
theorem t_f_X12_led {k1 : Int32} {m_t : TX12_t} {m_v : TX12_v} {q_q : TX11_q} (h_q_q_1 : R32 (2) (8) q_q.1) (h_q_q_2_1 : R32 (1) (9) q_q.2.1) (h_q_q_2_2_2_2_1 : R32 (1) (4) q_q.2.2.2.2.1) (h_q_q_2_2_2_2_2_1 : R32 (0) (5) q_q.2.2.2.2.2.1) (h_q_q_2_2_2_2_2_2_1 : R32 (0) (6) q_q.2.2.2.2.2.2.1) (h_q_q_2_2_2_2_2_2_2_1 : R32 (0) (6) q_q.2.2.2.2.2.2.2.1) : TotP (f_X12_led k1 m_t m_v q_q) (fun (r : Int32 × TX12_t) => R32 (0) (5) r.1 ∧ R32 (0) (1) r.2.1) := by
  unfold f_X12_led
  exact t_f_X12_led_L9 h_q_q_1 h_q_q_2_1 h_q_q_2_2_2_2_1 h_q_q_2_2_2_2_2_1 h_q_q_2_2_2_2_2_2_1 h_q_q_2_2_2_2_2_2_2_1 FU _ _ (r_w (l' := 0) (h' := 6) (r_n (x := (0 : Int32)) (l := 0) (h := 0) (by decide) (by decide)) (by decide) (by decide)) (fu_up (r_w (l' := 0) (h' := 6) (r_n (x := (0 : Int32)) (l := 0) (h := 0) (by decide) (by decide)) (by decide) (by decide)) (by decide))
theorem t_f_X12_led_nul {k1 : Int32} {m_t : TX12_t} : TotP (f_X12_led_nul k1 m_t) (fun (r : TX12_t) => R32 (1) (1) r.1) := by
  unfold f_X12_led_nul
  exact tp_s (r_n (x := (1 : Int32)) (l := 1) (h := 1) (by decide) (by decide))
