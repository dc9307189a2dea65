/-! the functions answer, part 6 -/
theorem t_f_X12_leaves {k1 : Int32} {q_q : TX11_q} (h_k1 : R32 (0) (287) k1) (h_q_q_1 : R32 (2) (8) q_q.1) (h_q_q_2_1 : R32 (1) (9) q_q.2.1) (h_q_q_2_2_2_2_1 : R32 (1) (4) q_q.2.2.2.2.1) (h_q_q_2_2_2_2_2_1 : R32 (0) (5) q_q.2.2.2.2.2.1) (h_q_q_2_2_2_2_2_2_1 : R32 (0) (6) q_q.2.2.2.2.2.2.1) (h_q_q_2_2_2_2_2_2_2_1 : R32 (0) (6) q_q.2.2.2.2.2.2.2.1) : TotP (f_X12_leaves k1 q_q) (fun (r : Int32) => True) := by
  unfold f_X12_leaves
  exact t_f_X12_leaves_L7 h_k1 h_q_q_1 h_q_q_2_1 h_q_q_2_2_2_2_1 h_q_q_2_2_2_2_2_1 h_q_q_2_2_2_2_2_2_1 h_q_q_2_2_2_2_2_2_2_1 FU _ _ _ (r_w (l' := 0) (h' := 288) (r_n (x := (0 : Int32)) (l := 0) (h := 0) (by decide) (by decide)) (by decide) (by decide)) (fu_up (r_w (l' := 0) (h' := 288) (r_n (x := (0 : Int32)) (l := 0) (h := 0) (by decide) (by decide)) (by decide) (by decide)) (by decide))
theorem t_f_X12_toAsk_J56 {k11_ : Int32 → Int32 → TX12_k → Option (Int32 × TX12_k)} {v11_l2 : Int32} {v56_l1 : Int32} {v56_m_k : TX12_k} {N11 : Nat} (hk11 : ∀ (v11_l2 : Int32) (v11_l1 : Int32) (v11_m_k : TX12_k), R32 (0) (288) v11_l2 → R32 (-2) (287) v11_l1 → (288 : Int) - v11_l2.toInt < (N11 : Nat) → TotP (k11_ v11_l2 v11_l1 v11_m_k) (fun (r : Int32 × TX12_k) => R32 (-2) (287) r.1)) (hm11 : (288 : Int) - v11_l2.toInt < ((N11 + 1 : Nat) : Int)) (h_v11_l2 : R32 (0) (287) v11_l2) (h_v56_l1 : R32 (-2) (287) v56_l1) : TotP (f_X12_toAsk_J56 k11_ v11_l2 v56_l1 v56_m_k) (fun (r : Int32 × TX12_k) => R32 (-2) (287) r.1) := by
  unfold f_X12_toAsk_J56
  exact hk11 _ _ _ (r_w (l' := 0) (h' := 288) (r_add (l := 1) (h := 288) h_v11_l2 (r_n (x := (1 : Int32)) (l := 1) (h := 1) (by decide) (by decide)) (by decide) (by decide) (by decide) (by decide)) (by decide) (by decide)) h_v56_l1 (ms_up (y := (1 : Int32)) h_v11_l2 (by decide) (by decide) (by decide) hm11)
theorem t_f_X12_toAsk_J49 {k11_ : Int32 → Int32 → TX12_k → Option (Int32 × TX12_k)} {o24 : Int32} {v11_l2 : Int32} {v11_m_k : TX12_k} {N11 : Nat} (hk11 : ∀ (v11_l2 : Int32) (v11_l1 : Int32) (v11_m_k : TX12_k), R32 (0) (288) v11_l2 → R32 (-2) (287) v11_l1 → (288 : Int) - v11_l2.toInt < (N11 : Nat) → TotP (k11_ v11_l2 v11_l1 v11_m_k) (fun (r : Int32 × TX12_k) => R32 (-2) (287) r.1)) (hm11 : (288 : Int) - v11_l2.toInt < ((N11 + 1 : Nat) : Int)) (h_v11_l2 : R32 (0) (287) v11_l2) : TotP (f_X12_toAsk_J49 k11_ o24 v11_l2 v11_m_k) (fun (r : Int32 × TX12_k) => R32 (-2) (287) r.1) := by
  unfold f_X12_toAsk_J49
  exact t_f_X12_toAsk_J56 hk11 hm11 h_v11_l2 (r_w (l' := -2) (h' := 287) h_v11_l2 (by decide) (by decide))
theorem t_f_X12_toAsk_L11 {q_q : TX11_q} (h_q_q_1 : R32 (2) (8) q_q.1) (h_q_q_2_1 : R32 (1) (9) q_q.2.1) (h_q_q_2_2_2_2_1 : R32 (1) (4) q_q.2.2.2.2.1) (h_q_q_2_2_2_2_2_1 : R32 (0) (5) q_q.2.2.2.2.2.1) (h_q_q_2_2_2_2_2_2_1 : R32 (0) (6) q_q.2.2.2.2.2.2.1) (h_q_q_2_2_2_2_2_2_2_1 : R32 (0) (6) q_q.2.2.2.2.2.2.2.1) : ∀ (n : Nat) (v11_l2 : Int32) (v11_l1 : Int32) (v11_m_k : TX12_k), R32 (0) (288) v11_l2 → R32 (-2) (287) v11_l1 → (288 : Int) - v11_l2.toInt < (n : Int) → TotP (f_X12_toAsk_L11 q_q n v11_l2 v11_l1 v11_m_k) (fun (r : Int32 × TX12_k) => R32 (-2) (287) r.1) := by
  intro n
  induction n with
  | zero =>
    intro v11_l2 v11_l1 v11_m_k h_v11_l2 h_v11_l1 hm
    exact (ms_0u h_v11_l2 hm).elim
  | succ n ih =>
    intro v11_l2 v11_l1 v11_m_k h_v11_l2 h_v11_l1 hm
    rw [f_X12_toAsk_L11]
    refine tp_e (f_X11_questions.eq_1 _) ?_
    refine tp_n (P := fun z => R32 (2) (288) z) (r_mul (l := 2) (h := 288) (r_mul (l := 2) (h := 72) h_q_q_1 h_q_q_2_1 (by decide) (by decide) (by decide) (by decide) (by decide)) h_q_q_2_2_2_2_1 (by decide) (by decide) (by decide) (by decide) (by decide)) (fun o16 h1 => ?_)
    refine tp_if (fun c2 => ?_) (fun c2 => ?_)
    · skip
      have r3 : R32 (2) (288) v11_l2 := r_le2 h1 h_v11_l2 c2
      exact tp_s h_v11_l1
    · skip
      have r4 : R32 (0) (287) v11_l2 := r_nle2 (by decide) h1 h_v11_l2 c2
      refine tp_b (t_f_X12_leaves r4 h_q_q_1 h_q_q_2_1 h_q_q_2_2_2_2_1 h_q_q_2_2_2_2_2_1 h_q_q_2_2_2_2_2_2_1 h_q_q_2_2_2_2_2_2_2_1) (fun o24 h5 => ?_)
      refine tp_if (fun c6 => ?_) (fun c6 => ?_)
      · skip
        have r7 : R32 (0) (0) o24 := r_eq1 (l := 0) (h := 0) (by decide) (by decide) (r_top _) (r_n (x := (0 : Int32)) (l := 0) (h := 0) (by decide) (by decide)) c6
        exact t_f_X12_toAsk_J56 ih hm r4 h_v11_l1
      · skip
        refine tp_if (fun c8 => ?_) (fun c8 => ?_)
        · skip
          have r9 : R32 (-2) (-2) v11_l1 := r_eq1 (l := -2) (h := -2) (by decide) (by decide) h_v11_l1 (r_n (x := (-2 : Int32)) (l := -2) (h := -2) (by decide) (by decide)) c8
          exact t_f_X12_toAsk_J49 ih hm r4
        · skip
          have r10 : R32 (-1) (287) v11_l1 := r_neL (by decide) h_v11_l1 (r_n (x := (-2 : Int32)) (l := -2) (h := -2) (by decide) (by decide)) c8
          refine tp_if (fun c11 => ?_) (fun c11 => ?_)
          · skip
            have r12 : R32 (-2147483648) (2147483646) o24 := r_lt1 (by decide) (r_top _) (r_top _) c11
            have r13 : R32 (-2147483647) (2147483647) v11_m_k.1 := r_lt2 (by decide) (r_top _) (r_top _) c11
            exact t_f_X12_toAsk_J49 ih hm r4
          · skip
            exact t_f_X12_toAsk_J56 ih hm r4 (r_w (l' := -2) (h' := 287) r10 (by decide) (by decide))
theorem t_f_X12_toAsk {m_k : TX12_k} {q_q : TX11_q} (h_q_q_1 : R32 (2) (8) q_q.1) (h_q_q_2_1 : R32 (1) (9) q_q.2.1) (h_q_q_2_2_2_2_1 : R32 (1) (4) q_q.2.2.2.2.1) (h_q_q_2_2_2_2_2_1 : R32 (0) (5) q_q.2.2.2.2.2.1) (h_q_q_2_2_2_2_2_2_1 : R32 (0) (6) q_q.2.2.2.2.2.2.1) (h_q_q_2_2_2_2_2_2_2_1 : R32 (0) (6) q_q.2.2.2.2.2.2.2.1) : TotP (f_X12_toAsk m_k q_q) (fun (r : Int32 × TX12_k) => R32 (-2) (287) r.1) := by
  unfold f_X12_toAsk
  exact t_f_X12_toAsk_L11 h_q_q_1 h_q_q_2_1 h_q_q_2_2_2_2_1 h_q_q_2_2_2_2_2_1 h_q_q_2_2_2_2_2_2_1 h_q_q_2_2_2_2_2_2_2_1 FU _ _ _ (r_w (l' := 0) (h' := 288) (r_n (x := (0 : Int32)) (l := 0) (h := 0) (by decide) (by decide)) (by decide) (by decide)) (r_w (l' := -2) (h' := 287) (r_n (x := (-2 : Int32)) (l := -2) (h := -2) (by decide) (by decide)) (by decide) (by decide)) (fu_up (r_w (l' := 0) (h' := 288) (r_n (x := (0 : Int32)) (l := 0) (h := 0) (by decide) (by decide)) (by decide) (by decide)) (by decide))
theorem t_f_X12_ask_J42 {m_t : TX12_t} {o21 : (Int32 × TX12_k)} {v42_t1 : Int32} (h_o21_1 : R32 (-2) (287) o21.1) : TotP (f_X12_ask_J42 m_t o21 v42_t1) (fun (r : Int32 × TX12_t × TX12_k) => R32 (0) (0) r.2.1.1 ∧ R32 (0) (6) r.2.1.2.1 ∧ R32 (-1) (-1) r.2.1.2.2) := by
  unfold f_X12_ask_J42
  refine tp_e (f_X12_good.eq_1 _ _) ?_
  refine tp_nl ?_
  exact tp_s ⟨(r_n (x := (0 : Int32)) (l := 0) (h := 0) (by decide) (by decide)), (r_w (l' := 0) (h' := 6) (r_n (x := (0 : Int32)) (l := 0) (h := 0) (by decide) (by decide)) (by decide) (by decide)), (r_n (x := (-1 : Int32)) (l := -1) (h := -1) (by decide) (by decide))⟩
theorem t_f_X12_ask {m_t : TX12_t} {m_k : TX12_k} {q_q : TX11_q} (h_q_q_1 : R32 (2) (8) q_q.1) (h_q_q_2_1 : R32 (1) (9) q_q.2.1) (h_q_q_2_2_2_2_1 : R32 (1) (4) q_q.2.2.2.2.1) (h_q_q_2_2_2_2_2_1 : R32 (0) (5) q_q.2.2.2.2.2.1) (h_q_q_2_2_2_2_2_2_1 : R32 (0) (6) q_q.2.2.2.2.2.2.1) (h_q_q_2_2_2_2_2_2_2_1 : R32 (0) (6) q_q.2.2.2.2.2.2.2.1) : TotP (f_X12_ask m_t m_k q_q) (fun (r : Int32 × TX12_t × TX12_k) => R32 (0) (0) r.2.1.1 ∧ R32 (0) (6) r.2.1.2.1 ∧ R32 (-1) (-1) r.2.1.2.2) := by
  unfold f_X12_ask
  refine tp_e (f_X12_refusesDark.eq_1 _) ?_
  refine tp_nif (fun c1 => ?_) (fun c1 => ?_)
  · skip
    have r2 : R32 (-1) (-1) q_q.2.2.2.2.2.2.2.2.1 := r_eq1 (l := -1) (h := -1) (by decide) (by decide) (r_top _) (r_n (x := (-1 : Int32)) (l := -1) (h := -1) (by decide) (by decide)) c1
    refine tp_nl ?_
    refine tp_iff (d_nle (r_n (x := (6 : Int32)) (l := 6) (h := 6) (by decide) (by decide)) (r_n (x := (0 : Int32)) (l := 0) (h := 0) (by decide) (by decide)) (by decide)) ?_
    refine tp_e (f_X12_refused.eq_1 _ _) ?_
    refine tp_nl ?_
    exact tp_s ⟨(r_n (x := (0 : Int32)) (l := 0) (h := 0) (by decide) (by decide)), (r_w (l' := 0) (h' := 6) (r_n (x := (6 : Int32)) (l := 6) (h := 6) (by decide) (by decide)) (by decide) (by decide)), (r_n (x := (-1 : Int32)) (l := -1) (h := -1) (by decide) (by decide))⟩
  · skip
    refine tp_nl ?_
    refine tp_ift (d_le (r_n (x := (0 : Int32)) (l := 0) (h := 0) (by decide) (by decide)) (r_n (x := (0 : Int32)) (l := 0) (h := 0) (by decide) (by decide)) (by decide)) ?_
    refine tp_b (t_f_X12_toAsk h_q_q_1 h_q_q_2_1 h_q_q_2_2_2_2_1 h_q_q_2_2_2_2_2_1 h_q_q_2_2_2_2_2_2_1 h_q_q_2_2_2_2_2_2_2_1) (fun o21 h3 => ?_)
    refine tp_if (fun c4 => ?_) (fun c4 => ?_)
    · skip
      have r5 : R32 (-2) (-2) o21.1 := r_eq1 (l := -2) (h := -2) (by decide) (by decide) h3 (r_n (x := (-2 : Int32)) (l := -2) (h := -2) (by decide) (by decide)) c4
      exact t_f_X12_ask_J42 (r_w (l' := -2) (h' := 287) r5 (by decide) (by decide))
    · skip
      have r6 : R32 (-1) (287) o21.1 := r_neL (by decide) h3 (r_n (x := (-2 : Int32)) (l := -2) (h := -2) (by decide) (by decide)) c4
      refine tp_b (t_f_X12_codeOf r6 h_q_q_1 h_q_q_2_1 h_q_q_2_2_2_2_1 h_q_q_2_2_2_2_2_1 h_q_q_2_2_2_2_2_2_1 h_q_q_2_2_2_2_2_2_2_1) (fun o39 h7 => ?_)
      exact t_f_X12_ask_J42 (r_w (l' := -2) (h' := 287) r6 (by decide) (by decide))
theorem t_f_X12_askLeaves {m_t : TX12_t} {m_k : TX12_k} {q_q : TX11_q} (h_q_q_1 : R32 (2) (8) q_q.1) (h_q_q_2_1 : R32 (1) (9) q_q.2.1) (h_q_q_2_2_2_2_1 : R32 (1) (4) q_q.2.2.2.2.1) (h_q_q_2_2_2_2_2_1 : R32 (0) (5) q_q.2.2.2.2.2.1) (h_q_q_2_2_2_2_2_2_1 : R32 (0) (6) q_q.2.2.2.2.2.2.1) (h_q_q_2_2_2_2_2_2_2_1 : R32 (0) (6) q_q.2.2.2.2.2.2.2.1) : TotP (f_X12_askLeaves m_t m_k q_q) (fun (r : Int32 × TX12_t × TX12_k) => R32 (0) (0) r.2.1.1 ∧ R32 (0) (6) r.2.1.2.1 ∧ R32 (-1) (-1) r.2.1.2.2) := by
  unfold f_X12_askLeaves
  refine tp_e (f_X12_refusesDark.eq_1 _) ?_
  refine tp_nif (fun c1 => ?_) (fun c1 => ?_)
  · skip
    have r2 : R32 (-1) (-1) q_q.2.2.2.2.2.2.2.2.1 := r_eq1 (l := -1) (h := -1) (by decide) (by decide) (r_top _) (r_n (x := (-1 : Int32)) (l := -1) (h := -1) (by decide) (by decide)) c1
    refine tp_nl ?_
    refine tp_iff (d_nle (r_n (x := (6 : Int32)) (l := 6) (h := 6) (by decide) (by decide)) (r_n (x := (0 : Int32)) (l := 0) (h := 0) (by decide) (by decide)) (by decide)) ?_
    refine tp_e (f_X12_refused.eq_1 _ _) ?_
    refine tp_nl ?_
    exact tp_s ⟨(r_n (x := (0 : Int32)) (l := 0) (h := 0) (by decide) (by decide)), (r_w (l' := 0) (h' := 6) (r_n (x := (6 : Int32)) (l := 6) (h := 6) (by decide) (by decide)) (by decide) (by decide)), (r_n (x := (-1 : Int32)) (l := -1) (h := -1) (by decide) (by decide))⟩
  · skip
    refine tp_nl ?_
    refine tp_ift (d_le (r_n (x := (0 : Int32)) (l := 0) (h := 0) (by decide) (by decide)) (r_n (x := (0 : Int32)) (l := 0) (h := 0) (by decide) (by decide)) (by decide)) ?_
    refine tp_b (t_f_X12_toAsk h_q_q_1 h_q_q_2_1 h_q_q_2_2_2_2_1 h_q_q_2_2_2_2_2_1 h_q_q_2_2_2_2_2_2_1 h_q_q_2_2_2_2_2_2_2_1) (fun o21 h3 => ?_)
    refine tp_e (f_X12_good.eq_1 _ _) ?_
    refine tp_nl ?_
    exact tp_s ⟨(r_n (x := (0 : Int32)) (l := 0) (h := 0) (by decide) (by decide)), (r_w (l' := 0) (h' := 6) (r_n (x := (0 : Int32)) (l := 0) (h := 0) (by decide) (by decide)) (by decide) (by decide)), (r_n (x := (-1 : Int32)) (l := -1) (h := -1) (by decide) (by decide))⟩
theorem t_f_X12_judge {k1 : Int32} {m_t : TX12_t} {q_q : TX11_q} (h_q_q_1 : R32 (2) (8) q_q.1) (h_q_q_2_1 : R32 (1) (9) q_q.2.1) (h_q_q_2_2_2_2_1 : R32 (1) (4) q_q.2.2.2.2.1) (h_q_q_2_2_2_2_2_1 : R32 (0) (5) q_q.2.2.2.2.2.1) (h_q_q_2_2_2_2_2_2_1 : R32 (0) (6) q_q.2.2.2.2.2.2.1) (h_q_q_2_2_2_2_2_2_2_1 : R32 (0) (6) q_q.2.2.2.2.2.2.2.1) : TotP (f_X12_judge k1 m_t q_q) (fun (r : Int32 × TX12_t) => R32 (-2) (5) r.1 ∧ R32 (0) (0) r.2.1 ∧ R32 (0) (6) r.2.2.1 ∧ R32 (-1) (-1) r.2.2.2) := by
  unfold f_X12_judge
  refine tp_e (f_X12_isAnswer.eq_1 _ _) ?_
  refine tp_nif (fun c1 => ?_) (fun c1 => ?_)
  · skip
    have r2 : R32 (-2147483648) (-1) k1 := r_lt1 (by decide) (r_top _) (r_n (x := (0 : Int32)) (l := 0) (h := 0) (by decide) (by decide)) c1
    refine tp_nl ?_
    refine tp_ift (d_eq (r_n (x := (0 : Int32)) (l := 0) (h := 0) (by decide) (by decide)) (r_n (x := (0 : Int32)) (l := 0) (h := 0) (by decide) (by decide))) ?_
    refine tp_e (f_X12_refused.eq_1 _ _) ?_
    refine tp_nl ?_
    exact tp_s ⟨(r_w (l' := -2) (h' := 5) (r_n (x := (-1 : Int32)) (l := -1) (h := -1) (by decide) (by decide)) (by decide) (by decide)), (r_n (x := (0 : Int32)) (l := 0) (h := 0) (by decide) (by decide)), (r_w (l' := 0) (h' := 6) (r_n (x := (1 : Int32)) (l := 1) (h := 1) (by decide) (by decide)) (by decide) (by decide)), (r_n (x := (-1 : Int32)) (l := -1) (h := -1) (by decide) (by decide))⟩
  · skip
    have r3 : R32 (0) (2147483647) k1 := r_nlt1 (r_top _) (r_n (x := (0 : Int32)) (l := 0) (h := 0) (by decide) (by decide)) c1
    refine tp_nif (fun c4 => ?_) (fun c4 => ?_)
    · skip
      refine tp_nl ?_
      refine tp_ift (d_eq (r_n (x := (0 : Int32)) (l := 0) (h := 0) (by decide) (by decide)) (r_n (x := (0 : Int32)) (l := 0) (h := 0) (by decide) (by decide))) ?_
      refine tp_e (f_X12_refused.eq_1 _ _) ?_
      refine tp_nl ?_
      exact tp_s ⟨(r_w (l' := -2) (h' := 5) (r_n (x := (-1 : Int32)) (l := -1) (h := -1) (by decide) (by decide)) (by decide) (by decide)), (r_n (x := (0 : Int32)) (l := 0) (h := 0) (by decide) (by decide)), (r_w (l' := 0) (h' := 6) (r_n (x := (1 : Int32)) (l := 1) (h := 1) (by decide) (by decide)) (by decide) (by decide)), (r_n (x := (-1 : Int32)) (l := -1) (h := -1) (by decide) (by decide))⟩
    · skip
      have r5 : R32 (1) (6) q_q.2.2.2.2.2.2.1 := r_nle1 (by decide) h_q_q_2_2_2_2_2_2_1 r3 c4
      have r6 : R32 (0) (5) k1 := r_nle2 (by decide) h_q_q_2_2_2_2_2_2_1 r3 c4
      refine tp_nl ?_
      refine tp_iff (d_ne2 (r_n (x := (1 : Int32)) (l := 1) (h := 1) (by decide) (by decide)) (r_n (x := (0 : Int32)) (l := 0) (h := 0) (by decide) (by decide)) (by decide)) ?_
      refine tp_if (fun c7 => ?_) (fun c7 => ?_)
      · skip
        have r8 : R32 (-1) (-1) q_q.2.2.2.2.2.2.2.2.1 := r_eq1 (l := -1) (h := -1) (by decide) (by decide) (r_top _) (r_n (x := (-1 : Int32)) (l := -1) (h := -1) (by decide) (by decide)) c7
        refine tp_e (f_X12_refused.eq_1 _ _) ?_
        refine tp_nl ?_
        exact tp_s ⟨(r_w (l' := -2) (h' := 5) (r_n (x := (-1 : Int32)) (l := -1) (h := -1) (by decide) (by decide)) (by decide) (by decide)), (r_n (x := (0 : Int32)) (l := 0) (h := 0) (by decide) (by decide)), (r_w (l' := 0) (h' := 6) (r_n (x := (6 : Int32)) (l := 6) (h := 6) (by decide) (by decide)) (by decide) (by decide)), (r_n (x := (-1 : Int32)) (l := -1) (h := -1) (by decide) (by decide))⟩
      · skip
        refine tp_g r6 (by decide) (by decide) ?_
        refine tp_g r6 (by decide) (by decide) ?_
        refine tp_g r6 (by decide) (by decide) ?_
        refine tp_b (t_f_X11_wrongBite h_q_q_1 h_q_q_2_1 h_q_q_2_2_2_2_1 h_q_q_2_2_2_2_2_1 (r_w (l' := 0) (h' := 6) r5 (by decide) (by decide)) h_q_q_2_2_2_2_2_2_2_1) (fun o71 h9 => ?_)
        refine tp_e (f_X12_good.eq_1 _ _) ?_
        refine tp_nl ?_
        exact tp_s ⟨h9, (r_n (x := (0 : Int32)) (l := 0) (h := 0) (by decide) (by decide)), (r_w (l' := 0) (h' := 6) (r_n (x := (0 : Int32)) (l := 0) (h := 0) (by decide) (by decide)) (by decide) (by decide)), (r_n (x := (-1 : Int32)) (l := -1) (h := -1) (by decide) (by decide))⟩
theorem t_f_X12_worth_J55 {m_t : TX12_t} : TotP (f_X12_worth_J55 m_t) (fun (r : Int32 × TX12_t) => R32 (0) (0) r.2.1 ∧ R32 (0) (2) r.2.2.1 ∧ R32 (-1) (-1) r.2.2.2) := by
  unfold f_X12_worth_J55
  refine tp_e (f_X12_refused.eq_1 _ _) ?_
  refine tp_nl ?_
  exact tp_s ⟨(r_n (x := (0 : Int32)) (l := 0) (h := 0) (by decide) (by decide)), (r_w (l' := 0) (h' := 2) (r_n (x := (2 : Int32)) (l := 2) (h := 2) (by decide) (by decide)) (by decide) (by decide)), (r_n (x := (-1 : Int32)) (l := -1) (h := -1) (by decide) (by decide))⟩
theorem t_f_X12_worth {k1 : Int32} {k2 : Int32} {k3 : Int32} {m_t : TX12_t} {q_q : TX11_q} (h_q_q_1 : R32 (2) (8) q_q.1) (h_q_q_2_1 : R32 (1) (9) q_q.2.1) (h_q_q_2_2_2_2_1 : R32 (1) (4) q_q.2.2.2.2.1) (h_q_q_2_2_2_2_2_1 : R32 (0) (5) q_q.2.2.2.2.2.1) (h_q_q_2_2_2_2_2_2_1 : R32 (0) (6) q_q.2.2.2.2.2.2.1) (h_q_q_2_2_2_2_2_2_2_1 : R32 (0) (6) q_q.2.2.2.2.2.2.2.1) : TotP (f_X12_worth k1 k2 k3 m_t q_q) (fun (r : Int32 × TX12_t) => R32 (0) (0) r.2.1 ∧ R32 (0) (2) r.2.2.1 ∧ R32 (-1) (-1) r.2.2.2) := by
  unfold f_X12_worth
  refine tp_e (f_X12_isAnswer.eq_1 _ _) ?_
  refine tp_nif (fun c1 => ?_) (fun c1 => ?_)
  · skip
    have r2 : R32 (-2147483648) (-1) k1 := r_lt1 (by decide) (r_top _) (r_n (x := (0 : Int32)) (l := 0) (h := 0) (by decide) (by decide)) c1
    refine tp_nl ?_
    refine tp_ift (d_eq (r_n (x := (0 : Int32)) (l := 0) (h := 0) (by decide) (by decide)) (r_n (x := (0 : Int32)) (l := 0) (h := 0) (by decide) (by decide))) ?_
    refine tp_e (f_X12_refused.eq_1 _ _) ?_
    refine tp_nl ?_
    exact tp_s ⟨(r_n (x := (0 : Int32)) (l := 0) (h := 0) (by decide) (by decide)), (r_w (l' := 0) (h' := 2) (r_n (x := (1 : Int32)) (l := 1) (h := 1) (by decide) (by decide)) (by decide) (by decide)), (r_n (x := (-1 : Int32)) (l := -1) (h := -1) (by decide) (by decide))⟩
  · skip
    have r3 : R32 (0) (2147483647) k1 := r_nlt1 (r_top _) (r_n (x := (0 : Int32)) (l := 0) (h := 0) (by decide) (by decide)) c1
    refine tp_nif (fun c4 => ?_) (fun c4 => ?_)
    · skip
      refine tp_nl ?_
      refine tp_ift (d_eq (r_n (x := (0 : Int32)) (l := 0) (h := 0) (by decide) (by decide)) (r_n (x := (0 : Int32)) (l := 0) (h := 0) (by decide) (by decide))) ?_
      refine tp_e (f_X12_refused.eq_1 _ _) ?_
      refine tp_nl ?_
      exact tp_s ⟨(r_n (x := (0 : Int32)) (l := 0) (h := 0) (by decide) (by decide)), (r_w (l' := 0) (h' := 2) (r_n (x := (1 : Int32)) (l := 1) (h := 1) (by decide) (by decide)) (by decide) (by decide)), (r_n (x := (-1 : Int32)) (l := -1) (h := -1) (by decide) (by decide))⟩
    · skip
      have r5 : R32 (1) (6) q_q.2.2.2.2.2.2.1 := r_nle1 (by decide) h_q_q_2_2_2_2_2_2_1 r3 c4
      have r6 : R32 (0) (5) k1 := r_nle2 (by decide) h_q_q_2_2_2_2_2_2_1 r3 c4
      refine tp_nl ?_
      refine tp_iff (d_ne2 (r_n (x := (1 : Int32)) (l := 1) (h := 1) (by decide) (by decide)) (r_n (x := (0 : Int32)) (l := 0) (h := 0) (by decide) (by decide)) (by decide)) ?_
      refine tp_e (f_X12_in.eq_1 _ _ _) ?_
      refine tp_nif (fun c7 => ?_) (fun c7 => ?_)
      · skip
        have r8 : R32 (-2147483648) (-1) k2 := r_lt1 (by decide) (r_top _) (r_n (x := (0 : Int32)) (l := 0) (h := 0) (by decide) (by decide)) c7
        refine tp_nl ?_
        refine tp_ift (d_eq (r_n (x := (0 : Int32)) (l := 0) (h := 0) (by decide) (by decide)) (r_n (x := (0 : Int32)) (l := 0) (h := 0) (by decide) (by decide))) ?_
        exact t_f_X12_worth_J55 
      · skip
        have r9 : R32 (0) (2147483647) k2 := r_nlt1 (r_top _) (r_n (x := (0 : Int32)) (l := 0) (h := 0) (by decide) (by decide)) c7
        refine tp_nif (fun c10 => ?_) (fun c10 => ?_)
        · skip
          have r11 : R32 (1000) (2147483647) k2 := r_lt2 (by decide) (r_n (x := (999 : Int32)) (l := 999) (h := 999) (by decide) (by decide)) r9 c10
          refine tp_nl ?_
          refine tp_ift (d_eq (r_n (x := (0 : Int32)) (l := 0) (h := 0) (by decide) (by decide)) (r_n (x := (0 : Int32)) (l := 0) (h := 0) (by decide) (by decide))) ?_
          exact t_f_X12_worth_J55 
        · skip
          have r12 : R32 (0) (999) k2 := r_nlt2 (r_n (x := (999 : Int32)) (l := 999) (h := 999) (by decide) (by decide)) r9 c10
          refine tp_nl ?_
          refine tp_iff (d_ne2 (r_n (x := (1 : Int32)) (l := 1) (h := 1) (by decide) (by decide)) (r_n (x := (0 : Int32)) (l := 0) (h := 0) (by decide) (by decide)) (by decide)) ?_
          refine tp_e (f_X12_in.eq_1 _ _ _) ?_
          refine tp_nif (fun c13 => ?_) (fun c13 => ?_)
          · skip
            have r14 : R32 (-2147483648) (998) k3 := r_lt1 (by decide) (r_top _) r12 c13
            refine tp_nl ?_
            refine tp_ift (d_eq (r_n (x := (0 : Int32)) (l := 0) (h := 0) (by decide) (by decide)) (r_n (x := (0 : Int32)) (l := 0) (h := 0) (by decide) (by decide))) ?_
            exact t_f_X12_worth_J55 
          · skip
            have r15 : R32 (0) (2147483647) k3 := r_nlt1 (r_top _) r12 c13
            refine tp_nif (fun c16 => ?_) (fun c16 => ?_)
            · skip
              have r17 : R32 (1000) (2147483647) k3 := r_lt2 (by decide) (r_n (x := (999 : Int32)) (l := 999) (h := 999) (by decide) (by decide)) r15 c16
              refine tp_nl ?_
              refine tp_ift (d_eq (r_n (x := (0 : Int32)) (l := 0) (h := 0) (by decide) (by decide)) (r_n (x := (0 : Int32)) (l := 0) (h := 0) (by decide) (by decide))) ?_
              exact t_f_X12_worth_J55 
            · skip
              have r18 : R32 (0) (999) k3 := r_nlt2 (r_n (x := (999 : Int32)) (l := 999) (h := 999) (by decide) (by decide)) r15 c16
              refine tp_nl ?_
              refine tp_iff (d_ne2 (r_n (x := (1 : Int32)) (l := 1) (h := 1) (by decide) (by decide)) (r_n (x := (0 : Int32)) (l := 0) (h := 0) (by decide) (by decide)) (by decide)) ?_
              refine tp_b (t_f_X12_keeps r6 h_q_q_1 h_q_q_2_1 h_q_q_2_2_2_2_1 h_q_q_2_2_2_2_2_1 r5 h_q_q_2_2_2_2_2_2_2_1) (fun o46 h19 => ?_)
              refine tp_e (f_X12_good.eq_1 _ _) ?_
              refine tp_nl ?_
              exact tp_s ⟨(r_n (x := (0 : Int32)) (l := 0) (h := 0) (by decide) (by decide)), (r_w (l' := 0) (h' := 2) (r_n (x := (0 : Int32)) (l := 0) (h := 0) (by decide) (by decide)) (by decide) (by decide)), (r_n (x := (-1 : Int32)) (l := -1) (h := -1) (by decide) (by decide))⟩
theorem t_f_X12_loads_J112 {k45_ : Int32 → Int32 → Int32 → Option TX12_k} {v45_l5 : Int32} {v112_l4 : Int32} {v112_l3 : Int32} {N45 : Nat} (hk45 : ∀ (v45_l5 : Int32) (v45_l4 : Int32) (v45_l3 : Int32), R32 (0) (6) v45_l5 → R32 (0) (1) v45_l4 → (6 : Int) - v45_l5.toInt < (N45 : Nat) → TotP (k45_ v45_l5 v45_l4 v45_l3) (fun (r : TX12_k) => R32 (0) (63) r.2.1 ∧ R32 (0) (2147483647) r.2.2)) (hm45 : (6 : Int) - v45_l5.toInt < ((N45 + 1 : Nat) : Int)) (h_v45_l5 : R32 (0) (5) v45_l5) (h_v112_l4 : R32 (0) (1) v112_l4) : TotP (f_X12_loads_J112 k45_ v45_l5 v112_l4 v112_l3) (fun (r : TX12_k) => R32 (0) (63) r.2.1 ∧ R32 (0) (2147483647) r.2.2) := by
  unfold f_X12_loads_J112
  exact hk45 _ _ _ (r_w (l' := 0) (h' := 6) (r_add (l := 1) (h := 6) h_v45_l5 (r_n (x := (1 : Int32)) (l := 1) (h := 1) (by decide) (by decide)) (by decide) (by decide) (by decide) (by decide)) (by decide) (by decide)) h_v112_l4 (ms_up (y := (1 : Int32)) h_v45_l5 (by decide) (by decide) (by decide) hm45)
theorem t_f_X12_loads_J110 {k45_ : Int32 → Int32 → Int32 → Option TX12_k} {v45_l3 : Int32} {v45_l5 : Int32} {v92_t0 : Int32} {v110_t1 : Int32} {N45 : Nat} (hk45 : ∀ (v45_l5 : Int32) (v45_l4 : Int32) (v45_l3 : Int32), R32 (0) (6) v45_l5 → R32 (0) (1) v45_l4 → (6 : Int) - v45_l5.toInt < (N45 : Nat) → TotP (k45_ v45_l5 v45_l4 v45_l3) (fun (r : TX12_k) => R32 (0) (63) r.2.1 ∧ R32 (0) (2147483647) r.2.2)) (hm45 : (6 : Int) - v45_l5.toInt < ((N45 + 1 : Nat) : Int)) (h_v45_l5 : R32 (0) (5) v45_l5) (h_v92_t0 : R32 (0) (1) v92_t0) : TotP (f_X12_loads_J110 k45_ v45_l3 v45_l5 v92_t0 v110_t1) (fun (r : TX12_k) => R32 (0) (63) r.2.1 ∧ R32 (0) (2147483647) r.2.2) := by
  unfold f_X12_loads_J110
  exact t_f_X12_loads_J112 hk45 hm45 h_v45_l5 h_v92_t0
theorem t_f_X12_loads_J92 {m_v : TX12_v} {q_q : TX11_q} {k45_ : Int32 → Int32 → Int32 → Option TX12_k} {v45_l3 : Int32} {v45_l5 : Int32} {v92_t0 : Int32} (h_q_q_1 : R32 (2) (8) q_q.1) (h_q_q_2_1 : R32 (1) (9) q_q.2.1) (h_q_q_2_2_2_2_1 : R32 (1) (4) q_q.2.2.2.2.1) (h_q_q_2_2_2_2_2_1 : R32 (0) (5) q_q.2.2.2.2.2.1) (h_q_q_2_2_2_2_2_2_1 : R32 (1) (6) q_q.2.2.2.2.2.2.1) (h_q_q_2_2_2_2_2_2_2_1 : R32 (0) (6) q_q.2.2.2.2.2.2.2.1) {N45 : Nat} (hk45 : ∀ (v45_l5 : Int32) (v45_l4 : Int32) (v45_l3 : Int32), R32 (0) (6) v45_l5 → R32 (0) (1) v45_l4 → (6 : Int) - v45_l5.toInt < (N45 : Nat) → TotP (k45_ v45_l5 v45_l4 v45_l3) (fun (r : TX12_k) => R32 (0) (63) r.2.1 ∧ R32 (0) (2147483647) r.2.2)) (hm45 : (6 : Int) - v45_l5.toInt < ((N45 + 1 : Nat) : Int)) (h_v45_l5 : R32 (0) (5) v45_l5) (h_v92_t0 : R32 (0) (1) v92_t0) : TotP (f_X12_loads_J92 m_v q_q k45_ v45_l3 v45_l5 v92_t0) (fun (r : TX12_k) => R32 (0) (63) r.2.1 ∧ R32 (0) (2147483647) r.2.2) := by
  unfold f_X12_loads_J92
  refine tp_if (fun c1 => ?_) (fun c1 => ?_)
  · skip
    have r2 : R32 (0) (0) v92_t0 := r_eq1 (l := 0) (h := 0) (by decide) (by decide) h_v92_t0 (r_n (x := (0 : Int32)) (l := 0) (h := 0) (by decide) (by decide)) c1
    exact t_f_X12_loads_J110 hk45 hm45 h_v45_l5 (r_w (l' := 0) (h' := 1) r2 (by decide) (by decide))
  · skip
    have r3 : R32 (1) (1) v92_t0 := r_neL (by decide) h_v92_t0 (r_n (x := (0 : Int32)) (l := 0) (h := 0) (by decide) (by decide)) c1
    refine tp_b (t_f_X12_worthNow h_v45_l5 h_q_q_1 h_q_q_2_1 h_q_q_2_2_2_2_1 h_q_q_2_2_2_2_2_1 h_q_q_2_2_2_2_2_2_1 h_q_q_2_2_2_2_2_2_2_1) (fun o103 h4 => ?_)
    exact t_f_X12_loads_J110 hk45 hm45 h_v45_l5 (r_w (l' := 0) (h' := 1) r3 (by decide) (by decide))
theorem t_f_X12_loads_J166 {k12_ : Int32 → TX12_k → Option TX12_k} {v12_l2 : Int32} {v166_m_k : TX12_k} {N12 : Nat} (hk12 : ∀ (v12_l2 : Int32) (v12_m_k : TX12_k), R32 (1) (64) v12_l2 → R32 (0) (63) v12_m_k.2.1 → R32 (0) (2147483647) v12_m_k.2.2 → (64 : Int) - v12_l2.toInt < (N12 : Nat) → TotP (k12_ v12_l2 v12_m_k) (fun (r : TX12_k) => R32 (0) (63) r.2.1 ∧ R32 (0) (2147483647) r.2.2)) (hm12 : (64 : Int) - v12_l2.toInt < ((N12 + 1 : Nat) : Int)) (h_v12_l2 : R32 (1) (63) v12_l2) (h_v166_m_k_2_1 : R32 (0) (63) v166_m_k.2.1) (h_v166_m_k_2_2 : R32 (0) (2147483647) v166_m_k.2.2) : TotP (f_X12_loads_J166 k12_ v12_l2 v166_m_k) (fun (r : TX12_k) => R32 (0) (63) r.2.1 ∧ R32 (0) (2147483647) r.2.2) := by
  unfold f_X12_loads_J166
  exact hk12 _ _ (r_w (l' := 1) (h' := 64) (r_add (l := 2) (h := 64) h_v12_l2 (r_n (x := (1 : Int32)) (l := 1) (h := 1) (by decide) (by decide)) (by decide) (by decide) (by decide) (by decide)) (by decide) (by decide)) h_v166_m_k_2_1 h_v166_m_k_2_2 (ms_up (y := (1 : Int32)) h_v12_l2 (by decide) (by decide) (by decide) hm12)
theorem t_f_X12_loads_J156 {k12_ : Int32 → TX12_k → Option TX12_k} {v12_l2 : Int32} {v12_m_k : TX12_k} {v45_l3 : Int32} {N12 : Nat} (hk12 : ∀ (v12_l2 : Int32) (v12_m_k : TX12_k), R32 (1) (64) v12_l2 → R32 (0) (63) v12_m_k.2.1 → R32 (0) (2147483647) v12_m_k.2.2 → (64 : Int) - v12_l2.toInt < (N12 : Nat) → TotP (k12_ v12_l2 v12_m_k) (fun (r : TX12_k) => R32 (0) (63) r.2.1 ∧ R32 (0) (2147483647) r.2.2)) (hm12 : (64 : Int) - v12_l2.toInt < ((N12 + 1 : Nat) : Int)) (h_v12_l2 : R32 (1) (63) v12_l2) (h_v12_m_k_2_1 : R32 (0) (63) v12_m_k.2.1) (h_v12_m_k_2_2 : R32 (0) (2147483647) v12_m_k.2.2) (h_v45_l3 : R32 (0) (2147483647) v45_l3) : TotP (f_X12_loads_J156 k12_ v12_l2 v12_m_k v45_l3) (fun (r : TX12_k) => R32 (0) (63) r.2.1 ∧ R32 (0) (2147483647) r.2.2) := by
  unfold f_X12_loads_J156
  exact t_f_X12_loads_J166 hk12 hm12 h_v12_l2 (r_w (l' := 0) (h' := 63) h_v12_l2 (by decide) (by decide)) h_v45_l3
theorem t_f_X12_loads_J118 {k12_ : Int32 → TX12_k → Option TX12_k} {v12_l2 : Int32} {v12_m_k : TX12_k} {v45_l3 : Int32} {v45_l4 : Int32} {N12 : Nat} (hk12 : ∀ (v12_l2 : Int32) (v12_m_k : TX12_k), R32 (1) (64) v12_l2 → R32 (0) (63) v12_m_k.2.1 → R32 (0) (2147483647) v12_m_k.2.2 → (64 : Int) - v12_l2.toInt < (N12 : Nat) → TotP (k12_ v12_l2 v12_m_k) (fun (r : TX12_k) => R32 (0) (63) r.2.1 ∧ R32 (0) (2147483647) r.2.2)) (hm12 : (64 : Int) - v12_l2.toInt < ((N12 + 1 : Nat) : Int)) (h_v12_l2 : R32 (1) (63) v12_l2) (h_v12_m_k_2_1 : R32 (0) (63) v12_m_k.2.1) (h_v12_m_k_2_2 : R32 (0) (2147483647) v12_m_k.2.2) (h_v45_l4 : R32 (0) (1) v45_l4) : TotP (f_X12_loads_J118 k12_ v12_l2 v12_m_k v45_l3 v45_l4) (fun (r : TX12_k) => R32 (0) (63) r.2.1 ∧ R32 (0) (2147483647) r.2.2) := by
  unfold f_X12_loads_J118
  refine tp_if (fun c1 => ?_) (fun c1 => ?_)
  · skip
    have r2 : R32 (0) (0) v45_l4 := r_eq1 (l := 0) (h := 0) (by decide) (by decide) h_v45_l4 (r_n (x := (0 : Int32)) (l := 0) (h := 0) (by decide) (by decide)) c1
    exact t_f_X12_loads_J166 hk12 hm12 h_v12_l2 h_v12_m_k_2_1 h_v12_m_k_2_2
  · skip
    have r3 : R32 (1) (1) v45_l4 := r_neL (by decide) h_v45_l4 (r_n (x := (0 : Int32)) (l := 0) (h := 0) (by decide) (by decide)) c1
    refine tp_if (fun c4 => ?_) (fun c4 => ?_)
    · skip
      have r5 : R32 (-2147483648) (2147483646) v45_l3 := r_lt1 (by decide) (r_top _) h_v12_m_k_2_2 c4
      exact t_f_X12_loads_J166 hk12 hm12 h_v12_l2 h_v12_m_k_2_1 h_v12_m_k_2_2
    · skip
      have r6 : R32 (0) (2147483647) v45_l3 := r_nlt1 (r_top _) h_v12_m_k_2_2 c4
      refine tp_if (fun c7 => ?_) (fun c7 => ?_)
      · skip
        refine tp_b (t_f_X12_bits (r_w (l' := 0) (h' := 63) h_v12_l2 (by decide) (by decide))) (fun o140 h8 => ?_)
        refine tp_b (t_f_X12_bits h_v12_m_k_2_1) (fun o147 h9 => ?_)
        refine tp_if (fun c10 => ?_) (fun c10 => ?_)
        · skip
          have r11 : R32 (-2147483648) (2147483646) o140 := r_lt1 (by decide) (r_top _) (r_top _) c10
          have r12 : R32 (-2147483647) (2147483647) o147 := r_lt2 (by decide) (r_top _) (r_top _) c10
          exact t_f_X12_loads_J156 hk12 hm12 h_v12_l2 h_v12_m_k_2_1 h_v12_m_k_2_2 r6
        · skip
          exact t_f_X12_loads_J166 hk12 hm12 h_v12_l2 h_v12_m_k_2_1 h_v12_m_k_2_2
      · skip
        exact t_f_X12_loads_J156 hk12 hm12 h_v12_l2 h_v12_m_k_2_1 h_v12_m_k_2_2 r6
theorem t_f_X12_loads_L45 {m_v : TX12_v} {q_q : TX11_q} {k12_ : Int32 → TX12_k → Option TX12_k} {v12_l2 : Int32} {v12_m_k : TX12_k} (h_q_q_1 : R32 (2) (8) q_q.1) (h_q_q_2_1 : R32 (1) (9) q_q.2.1) (h_q_q_2_2_2_2_1 : R32 (1) (4) q_q.2.2.2.2.1) (h_q_q_2_2_2_2_2_1 : R32 (0) (5) q_q.2.2.2.2.2.1) (h_q_q_2_2_2_2_2_2_1 : R32 (0) (6) q_q.2.2.2.2.2.2.1) (h_q_q_2_2_2_2_2_2_2_1 : R32 (0) (6) q_q.2.2.2.2.2.2.2.1) {N12 : Nat} (hk12 : ∀ (v12_l2 : Int32) (v12_m_k : TX12_k), R32 (1) (64) v12_l2 → R32 (0) (63) v12_m_k.2.1 → R32 (0) (2147483647) v12_m_k.2.2 → (64 : Int) - v12_l2.toInt < (N12 : Nat) → TotP (k12_ v12_l2 v12_m_k) (fun (r : TX12_k) => R32 (0) (63) r.2.1 ∧ R32 (0) (2147483647) r.2.2)) (hm12 : (64 : Int) - v12_l2.toInt < ((N12 + 1 : Nat) : Int)) (h_v12_l2 : R32 (1) (63) v12_l2) (h_v12_m_k_2_1 : R32 (0) (63) v12_m_k.2.1) (h_v12_m_k_2_2 : R32 (0) (2147483647) v12_m_k.2.2) : ∀ (n : Nat) (v45_l5 : Int32) (v45_l4 : Int32) (v45_l3 : Int32), R32 (0) (6) v45_l5 → R32 (0) (1) v45_l4 → (6 : Int) - v45_l5.toInt < (n : Int) → TotP (f_X12_loads_L45 m_v q_q k12_ v12_l2 v12_m_k n v45_l5 v45_l4 v45_l3) (fun (r : TX12_k) => R32 (0) (63) r.2.1 ∧ R32 (0) (2147483647) r.2.2) := by
  intro n
  induction n with
  | zero =>
    intro v45_l5 v45_l4 v45_l3 h_v45_l5 h_v45_l4 hm
    exact (ms_0u h_v45_l5 hm).elim
  | succ n ih =>
    intro v45_l5 v45_l4 v45_l3 h_v45_l5 h_v45_l4 hm
    rw [f_X12_loads_L45]
    refine tp_if (fun c1 => ?_) (fun c1 => ?_)
    · skip
      exact t_f_X12_loads_J118 hk12 hm12 h_v12_l2 h_v12_m_k_2_1 h_v12_m_k_2_2 h_v45_l4
    · skip
      have r2 : R32 (1) (6) q_q.2.2.2.2.2.2.1 := r_nle1 (by decide) h_q_q_2_2_2_2_2_2_1 h_v45_l5 c1
      have r3 : R32 (0) (5) v45_l5 := r_nle2 (by decide) h_q_q_2_2_2_2_2_2_1 h_v45_l5 c1
      refine tp_if (fun c4 => ?_) (fun c4 => ?_)
      · skip
        have r5 : R32 (0) (0) v45_l4 := r_eq1 (l := 0) (h := 0) (by decide) (by decide) h_v45_l4 (r_n (x := (0 : Int32)) (l := 0) (h := 0) (by decide) (by decide)) c4
        exact t_f_X12_loads_J118 hk12 hm12 h_v12_l2 h_v12_m_k_2_1 h_v12_m_k_2_2 (r_w (l' := 0) (h' := 1) r5 (by decide) (by decide))
      · skip
        have r6 : R32 (1) (1) v45_l4 := r_neL (by decide) h_v45_l4 (r_n (x := (0 : Int32)) (l := 0) (h := 0) (by decide) (by decide)) c4
        refine tp_e (f_X12_bit.eq_1 _ _) ?_
        refine tp_nif (fun c7 => ?_) (fun c7 => ?_)
        · skip
          have r8 : R32 (1) (1) ((v12_l2 >>> (v45_l5 &&& (31 : Int32))) &&& (1 : Int32)) := r_eq1 (l := 1) (h := 1) (by decide) (by decide) r_and1 (r_n (x := (1 : Int32)) (l := 1) (h := 1) (by decide) (by decide)) c7
          refine tp_nl ?_
          refine tp_iff (d_ne2 (r_n (x := (1 : Int32)) (l := 1) (h := 1) (by decide) (by decide)) (r_n (x := (0 : Int32)) (l := 0) (h := 0) (by decide) (by decide)) (by decide)) ?_
          refine tp_g (r_add (l := 0) (h := 5) (r_n (x := (0 : Int32)) (l := 0) (h := 0) (by decide) (by decide)) r3 (by decide) (by decide) (by decide) (by decide)) (by decide) (by decide) ?_
          refine tp_if (fun c9 => ?_) (fun c9 => ?_)
          · skip
            have r10 : R32 (1) (1) (m_v (((0 : Int32) + v45_l5)).toNatClampNeg) := r_eq1 (l := 1) (h := 1) (by decide) (by decide) (r_top _) (r_n (x := (1 : Int32)) (l := 1) (h := 1) (by decide) (by decide)) c9
            exact t_f_X12_loads_J92 h_q_q_1 h_q_q_2_1 h_q_q_2_2_2_2_1 h_q_q_2_2_2_2_2_1 r2 h_q_q_2_2_2_2_2_2_2_1 ih hm r3 (r_w (l' := 0) (h' := 1) (r_n (x := (1 : Int32)) (l := 1) (h := 1) (by decide) (by decide)) (by decide) (by decide))
          · skip
            exact t_f_X12_loads_J92 h_q_q_1 h_q_q_2_1 h_q_q_2_2_2_2_1 h_q_q_2_2_2_2_2_1 r2 h_q_q_2_2_2_2_2_2_2_1 ih hm r3 (r_w (l' := 0) (h' := 1) (r_n (x := (0 : Int32)) (l := 0) (h := 0) (by decide) (by decide)) (by decide) (by decide))
        · skip
          have r11 : R32 (0) (0) ((v12_l2 >>> (v45_l5 &&& (31 : Int32))) &&& (1 : Int32)) := r_neH (by decide) r_and1 (r_n (x := (1 : Int32)) (l := 1) (h := 1) (by decide) (by decide)) c7
          refine tp_nl ?_
          refine tp_ift (d_eq (r_n (x := (0 : Int32)) (l := 0) (h := 0) (by decide) (by decide)) (r_n (x := (0 : Int32)) (l := 0) (h := 0) (by decide) (by decide))) ?_
          exact t_f_X12_loads_J112 ih hm r3 (r_w (l' := 0) (h' := 1) r6 (by decide) (by decide))
theorem t_f_X12_loads_J40 {m_v : TX12_v} {q_q : TX11_q} {k12_ : Int32 → TX12_k → Option TX12_k} {v12_l2 : Int32} {v12_m_k : TX12_k} {v40_t0 : Int32} (h_q_q_1 : R32 (2) (8) q_q.1) (h_q_q_2_1 : R32 (1) (9) q_q.2.1) (h_q_q_2_2_2_2_1 : R32 (1) (4) q_q.2.2.2.2.1) (h_q_q_2_2_2_2_2_1 : R32 (0) (5) q_q.2.2.2.2.2.1) (h_q_q_2_2_2_2_2_2_1 : R32 (0) (6) q_q.2.2.2.2.2.2.1) (h_q_q_2_2_2_2_2_2_2_1 : R32 (0) (6) q_q.2.2.2.2.2.2.2.1) {N12 : Nat} (hk12 : ∀ (v12_l2 : Int32) (v12_m_k : TX12_k), R32 (1) (64) v12_l2 → R32 (0) (63) v12_m_k.2.1 → R32 (0) (2147483647) v12_m_k.2.2 → (64 : Int) - v12_l2.toInt < (N12 : Nat) → TotP (k12_ v12_l2 v12_m_k) (fun (r : TX12_k) => R32 (0) (63) r.2.1 ∧ R32 (0) (2147483647) r.2.2)) (hm12 : (64 : Int) - v12_l2.toInt < ((N12 + 1 : Nat) : Int)) (h_v12_l2 : R32 (1) (63) v12_l2) (h_v12_m_k_2_1 : R32 (0) (63) v12_m_k.2.1) (h_v12_m_k_2_2 : R32 (0) (2147483647) v12_m_k.2.2) (h_v40_t0 : R32 (0) (1) v40_t0) : TotP (f_X12_loads_J40 m_v q_q k12_ v12_l2 v12_m_k v40_t0) (fun (r : TX12_k) => R32 (0) (63) r.2.1 ∧ R32 (0) (2147483647) r.2.2) := by
  unfold f_X12_loads_J40
  exact t_f_X12_loads_L45 h_q_q_1 h_q_q_2_1 h_q_q_2_2_2_2_1 h_q_q_2_2_2_2_2_1 h_q_q_2_2_2_2_2_2_1 h_q_q_2_2_2_2_2_2_2_1 hk12 hm12 h_v12_l2 h_v12_m_k_2_1 h_v12_m_k_2_2 FU _ _ _ (r_w (l' := 0) (h' := 6) (r_n (x := (0 : Int32)) (l := 0) (h := 0) (by decide) (by decide)) (by decide) (by decide)) h_v40_t0 (fu_up (r_w (l' := 0) (h' := 6) (r_n (x := (0 : Int32)) (l := 0) (h := 0) (by decide) (by decide)) (by decide) (by decide)) (by decide))
theorem t_f_X12_loads_L12 {k1 : Int32} {m_v : TX12_v} {q_q : TX11_q} (h_k1 : R32 (0) (6) k1) (h_q_q_1 : R32 (2) (8) q_q.1) (h_q_q_2_1 : R32 (1) (9) q_q.2.1) (h_q_q_2_2_2_2_1 : R32 (1) (4) q_q.2.2.2.2.1) (h_q_q_2_2_2_2_2_1 : R32 (0) (5) q_q.2.2.2.2.2.1) (h_q_q_2_2_2_2_2_2_1 : R32 (0) (6) q_q.2.2.2.2.2.2.1) (h_q_q_2_2_2_2_2_2_2_1 : R32 (0) (6) q_q.2.2.2.2.2.2.2.1) : ∀ (n : Nat) (v12_l2 : Int32) (v12_m_k : TX12_k), R32 (1) (64) v12_l2 → R32 (0) (63) v12_m_k.2.1 → R32 (0) (2147483647) v12_m_k.2.2 → (64 : Int) - v12_l2.toInt < (n : Int) → TotP (f_X12_loads_L12 k1 m_v q_q n v12_l2 v12_m_k) (fun (r : TX12_k) => R32 (0) (63) r.2.1 ∧ R32 (0) (2147483647) r.2.2) := by
  intro n
  induction n with
  | zero =>
    intro v12_l2 v12_m_k h_v12_l2 h_v12_m_k_2_1 h_v12_m_k_2_2 hm
    exact (ms_0u h_v12_l2 hm).elim
  | succ n ih =>
    intro v12_l2 v12_m_k h_v12_l2 h_v12_m_k_2_1 h_v12_m_k_2_2 hm
    rw [f_X12_loads_L12]
    refine tp_if (fun c1 => ?_) (fun c1 => ?_)
    · skip
      exact tp_s ⟨h_v12_m_k_2_1, h_v12_m_k_2_2⟩
    · skip
      have r2 : R32 (2) (64) ((1 : Int32) <<< (q_q.2.2.2.2.2.2.1 &&& (31 : Int32))) := r_nle1 (by decide) (r_shl 0 6 (l := 1) (h := 64) h_q_q_2_2_2_2_2_2_1 (by decide) (by decide) (by decide)) h_v12_l2 c1
      have r3 : R32 (1) (63) v12_l2 := r_nle2 (by decide) (r_shl 0 6 (l := 1) (h := 64) h_q_q_2_2_2_2_2_2_1 (by decide) (by decide) (by decide)) h_v12_l2 c1
      refine tp_b (t_f_X12_bits (r_w (l' := 0) (h' := 63) r3 (by decide) (by decide))) (fun o28 h4 => ?_)
      refine tp_if (fun c5 => ?_) (fun c5 => ?_)
      · skip
        have r6 : R32 (1) (2147483647) o28 := r_lt2 (by decide) h_k1 (r_top _) c5
        exact t_f_X12_loads_J40 h_q_q_1 h_q_q_2_1 h_q_q_2_2_2_2_1 h_q_q_2_2_2_2_2_1 h_q_q_2_2_2_2_2_2_1 h_q_q_2_2_2_2_2_2_2_1 ih hm r3 h_v12_m_k_2_1 h_v12_m_k_2_2 (r_w (l' := 0) (h' := 1) (r_n (x := (0 : Int32)) (l := 0) (h := 0) (by decide) (by decide)) (by decide) (by decide))
      · skip
        have r7 : R32 (-2147483648) (6) o28 := r_nlt2 h_k1 (r_top _) c5
        exact t_f_X12_loads_J40 h_q_q_1 h_q_q_2_1 h_q_q_2_2_2_2_1 h_q_q_2_2_2_2_2_1 h_q_q_2_2_2_2_2_2_1 h_q_q_2_2_2_2_2_2_2_1 ih hm r3 h_v12_m_k_2_1 h_v12_m_k_2_2 (r_w (l' := 0) (h' := 1) (r_n (x := (1 : Int32)) (l := 1) (h := 1) (by decide) (by decide)) (by decide) (by decide))
theorem t_f_X12_loads {k1 : Int32} {m_v : TX12_v} {m_k : TX12_k} {q_q : TX11_q} (h_k1 : R32 (0) (6) k1) (h_q_q_1 : R32 (2) (8) q_q.1) (h_q_q_2_1 : R32 (1) (9) q_q.2.1) (h_q_q_2_2_2_2_1 : R32 (1) (4) q_q.2.2.2.2.1) (h_q_q_2_2_2_2_2_1 : R32 (0) (5) q_q.2.2.2.2.2.1) (h_q_q_2_2_2_2_2_2_1 : R32 (0) (6) q_q.2.2.2.2.2.2.1) (h_q_q_2_2_2_2_2_2_2_1 : R32 (0) (6) q_q.2.2.2.2.2.2.2.1) : TotP (f_X12_loads k1 m_v m_k q_q) (fun (r : TX12_k) => R32 (0) (63) r.2.1 ∧ R32 (0) (2147483647) r.2.2) := by
  unfold f_X12_loads
  exact t_f_X12_loads_L12 h_k1 h_q_q_1 h_q_q_2_1 h_q_q_2_2_2_2_1 h_q_q_2_2_2_2_2_1 h_q_q_2_2_2_2_2_2_1 h_q_q_2_2_2_2_2_2_2_1 FU _ _ (r_w (l' := 1) (h' := 64) (r_n (x := (1 : Int32)) (l := 1) (h := 1) (by decide) (by decide)) (by decide) (by decide)) (r_w (l' := 0) (h' := 63) (r_n (x := (0 : Int32)) (l := 0) (h := 0) (by decide) (by decide)) (by decide) (by decide)) (r_w (l' := 0) (h' := 2147483647) (r_n (x := (0 : Int32)) (l := 0) (h := 0) (by decide) (by decide)) (by decide) (by decide)) (fu_up (r_w (l' := 1) (h' := 64) (r_n (x := (1 : Int32)) (l := 1) (h := 1) (by decide) (by decide)) (by decide) (by decide)) (by decide))
theorem t_f_X12_load {k1 : Int32} {m_t : TX12_t} {m_v : TX12_v} {m_k : TX12_k} {q_q : TX11_q} (h_q_q_1 : R32 (2) (8) q_q.1) (h_q_q_2_1 : R32 (1) (9) q_q.2.1) (h_q_q_2_2_2_2_1 : R32 (1) (4) q_q.2.2.2.2.1) (h_q_q_2_2_2_2_2_1 : R32 (0) (5) q_q.2.2.2.2.2.1) (h_q_q_2_2_2_2_2_2_1 : R32 (0) (6) q_q.2.2.2.2.2.2.1) (h_q_q_2_2_2_2_2_2_2_1 : R32 (0) (6) q_q.2.2.2.2.2.2.2.1) : TotP (f_X12_load k1 m_t m_v m_k q_q) (fun (r : Int32 × TX12_t × TX12_k) => R32 (-1) (63) r.1 ∧ R32 (0) (0) r.2.1.1 ∧ R32 (0) (2) r.2.1.2.1 ∧ R32 (-1) (-1) r.2.1.2.2) := by
  unfold f_X12_load
  refine tp_e (f_X12_refusesLoad.eq_1 _) ?_
  refine tp_nn ?_
  refine tp_e (f_X12_in.eq_1 _ _ _) ?_
  refine tp_nif (fun c1 => ?_) (fun c1 => ?_)
  · skip
    have r2 : R32 (-2147483648) (-1) k1 := r_lt1 (by decide) (r_top _) (r_n (x := (0 : Int32)) (l := 0) (h := 0) (by decide) (by decide)) c1
    refine tp_nl ?_
    refine tp_nift (d_eq (r_n (x := (0 : Int32)) (l := 0) (h := 0) (by decide) (by decide)) (r_n (x := (0 : Int32)) (l := 0) (h := 0) (by decide) (by decide))) ?_
    refine tp_nl ?_
    refine tp_iff (d_nle (r_n (x := (2 : Int32)) (l := 2) (h := 2) (by decide) (by decide)) (r_n (x := (0 : Int32)) (l := 0) (h := 0) (by decide) (by decide)) (by decide)) ?_
    refine tp_e (f_X12_refused.eq_1 _ _) ?_
    refine tp_nl ?_
    exact tp_s ⟨(r_w (l' := -1) (h' := 63) (r_n (x := (-1 : Int32)) (l := -1) (h := -1) (by decide) (by decide)) (by decide) (by decide)), (r_n (x := (0 : Int32)) (l := 0) (h := 0) (by decide) (by decide)), (r_w (l' := 0) (h' := 2) (r_n (x := (2 : Int32)) (l := 2) (h := 2) (by decide) (by decide)) (by decide) (by decide)), (r_n (x := (-1 : Int32)) (l := -1) (h := -1) (by decide) (by decide))⟩
  · skip
    have r3 : R32 (0) (2147483647) k1 := r_nlt1 (r_top _) (r_n (x := (0 : Int32)) (l := 0) (h := 0) (by decide) (by decide)) c1
    refine tp_nif (fun c4 => ?_) (fun c4 => ?_)
    · skip
      have r5 : R32 (7) (2147483647) k1 := r_lt2 (by decide) (r_n (x := (6 : Int32)) (l := 6) (h := 6) (by decide) (by decide)) r3 c4
      refine tp_nl ?_
      refine tp_nift (d_eq (r_n (x := (0 : Int32)) (l := 0) (h := 0) (by decide) (by decide)) (r_n (x := (0 : Int32)) (l := 0) (h := 0) (by decide) (by decide))) ?_
      refine tp_nl ?_
      refine tp_iff (d_nle (r_n (x := (2 : Int32)) (l := 2) (h := 2) (by decide) (by decide)) (r_n (x := (0 : Int32)) (l := 0) (h := 0) (by decide) (by decide)) (by decide)) ?_
      refine tp_e (f_X12_refused.eq_1 _ _) ?_
      refine tp_nl ?_
      exact tp_s ⟨(r_w (l' := -1) (h' := 63) (r_n (x := (-1 : Int32)) (l := -1) (h := -1) (by decide) (by decide)) (by decide) (by decide)), (r_n (x := (0 : Int32)) (l := 0) (h := 0) (by decide) (by decide)), (r_w (l' := 0) (h' := 2) (r_n (x := (2 : Int32)) (l := 2) (h := 2) (by decide) (by decide)) (by decide) (by decide)), (r_n (x := (-1 : Int32)) (l := -1) (h := -1) (by decide) (by decide))⟩
    · skip
      have r6 : R32 (0) (6) k1 := r_nlt2 (r_n (x := (6 : Int32)) (l := 6) (h := 6) (by decide) (by decide)) r3 c4
      refine tp_nl ?_
      refine tp_niff (d_ne2 (r_n (x := (1 : Int32)) (l := 1) (h := 1) (by decide) (by decide)) (r_n (x := (0 : Int32)) (l := 0) (h := 0) (by decide) (by decide)) (by decide)) ?_
      refine tp_nl ?_
      refine tp_ift (d_le (r_n (x := (0 : Int32)) (l := 0) (h := 0) (by decide) (by decide)) (r_n (x := (0 : Int32)) (l := 0) (h := 0) (by decide) (by decide)) (by decide)) ?_
      refine tp_b (t_f_X12_loads r6 h_q_q_1 h_q_q_2_1 h_q_q_2_2_2_2_1 h_q_q_2_2_2_2_2_1 h_q_q_2_2_2_2_2_2_1 h_q_q_2_2_2_2_2_2_2_1) (fun o23 h7 => ?_)
      obtain ⟨r8, r9⟩ := h7
      refine tp_e (f_X12_good.eq_1 _ _) ?_
      refine tp_nl ?_
      exact tp_s ⟨(r_w (l' := -1) (h' := 63) r8 (by decide) (by decide)), (r_n (x := (0 : Int32)) (l := 0) (h := 0) (by decide) (by decide)), (r_w (l' := 0) (h' := 2) (r_n (x := (0 : Int32)) (l := 0) (h := 0) (by decide) (by decide)) (by decide) (by decide)), (r_n (x := (-1 : Int32)) (l := -1) (h := -1) (by decide) (by decide))⟩
theorem t_f_X12_loadWorth {k1 : Int32} {m_t : TX12_t} {m_v : TX12_v} {m_k : TX12_k} {q_q : TX11_q} (h_q_q_1 : R32 (2) (8) q_q.1) (h_q_q_2_1 : R32 (1) (9) q_q.2.1) (h_q_q_2_2_2_2_1 : R32 (1) (4) q_q.2.2.2.2.1) (h_q_q_2_2_2_2_2_1 : R32 (0) (5) q_q.2.2.2.2.2.1) (h_q_q_2_2_2_2_2_2_1 : R32 (0) (6) q_q.2.2.2.2.2.2.1) (h_q_q_2_2_2_2_2_2_2_1 : R32 (0) (6) q_q.2.2.2.2.2.2.2.1) : TotP (f_X12_loadWorth k1 m_t m_v m_k q_q) (fun (r : Int32 × TX12_t × TX12_k) => R32 (-1) (2147483647) r.1 ∧ R32 (0) (0) r.2.1.1 ∧ R32 (0) (2) r.2.1.2.1 ∧ R32 (-1) (-1) r.2.1.2.2) := by
  unfold f_X12_loadWorth
  refine tp_e (f_X12_refusesLoad.eq_1 _) ?_
  refine tp_nn ?_
  refine tp_e (f_X12_in.eq_1 _ _ _) ?_
  refine tp_nif (fun c1 => ?_) (fun c1 => ?_)
  · skip
    have r2 : R32 (-2147483648) (-1) k1 := r_lt1 (by decide) (r_top _) (r_n (x := (0 : Int32)) (l := 0) (h := 0) (by decide) (by decide)) c1
    refine tp_nl ?_
    refine tp_nift (d_eq (r_n (x := (0 : Int32)) (l := 0) (h := 0) (by decide) (by decide)) (r_n (x := (0 : Int32)) (l := 0) (h := 0) (by decide) (by decide))) ?_
    refine tp_nl ?_
    refine tp_iff (d_nle (r_n (x := (2 : Int32)) (l := 2) (h := 2) (by decide) (by decide)) (r_n (x := (0 : Int32)) (l := 0) (h := 0) (by decide) (by decide)) (by decide)) ?_
    refine tp_e (f_X12_refused.eq_1 _ _) ?_
    refine tp_nl ?_
    exact tp_s ⟨(r_w (l' := -1) (h' := 2147483647) (r_n (x := (-1 : Int32)) (l := -1) (h := -1) (by decide) (by decide)) (by decide) (by decide)), (r_n (x := (0 : Int32)) (l := 0) (h := 0) (by decide) (by decide)), (r_w (l' := 0) (h' := 2) (r_n (x := (2 : Int32)) (l := 2) (h := 2) (by decide) (by decide)) (by decide) (by decide)), (r_n (x := (-1 : Int32)) (l := -1) (h := -1) (by decide) (by decide))⟩
  · skip
    have r3 : R32 (0) (2147483647) k1 := r_nlt1 (r_top _) (r_n (x := (0 : Int32)) (l := 0) (h := 0) (by decide) (by decide)) c1
    refine tp_nif (fun c4 => ?_) (fun c4 => ?_)
    · skip
      have r5 : R32 (7) (2147483647) k1 := r_lt2 (by decide) (r_n (x := (6 : Int32)) (l := 6) (h := 6) (by decide) (by decide)) r3 c4
      refine tp_nl ?_
      refine tp_nift (d_eq (r_n (x := (0 : Int32)) (l := 0) (h := 0) (by decide) (by decide)) (r_n (x := (0 : Int32)) (l := 0) (h := 0) (by decide) (by decide))) ?_
      refine tp_nl ?_
      refine tp_iff (d_nle (r_n (x := (2 : Int32)) (l := 2) (h := 2) (by decide) (by decide)) (r_n (x := (0 : Int32)) (l := 0) (h := 0) (by decide) (by decide)) (by decide)) ?_
      refine tp_e (f_X12_refused.eq_1 _ _) ?_
      refine tp_nl ?_
      exact tp_s ⟨(r_w (l' := -1) (h' := 2147483647) (r_n (x := (-1 : Int32)) (l := -1) (h := -1) (by decide) (by decide)) (by decide) (by decide)), (r_n (x := (0 : Int32)) (l := 0) (h := 0) (by decide) (by decide)), (r_w (l' := 0) (h' := 2) (r_n (x := (2 : Int32)) (l := 2) (h := 2) (by decide) (by decide)) (by decide) (by decide)), (r_n (x := (-1 : Int32)) (l := -1) (h := -1) (by decide) (by decide))⟩
    · skip
      have r6 : R32 (0) (6) k1 := r_nlt2 (r_n (x := (6 : Int32)) (l := 6) (h := 6) (by decide) (by decide)) r3 c4
      refine tp_nl ?_
      refine tp_niff (d_ne2 (r_n (x := (1 : Int32)) (l := 1) (h := 1) (by decide) (by decide)) (r_n (x := (0 : Int32)) (l := 0) (h := 0) (by decide) (by decide)) (by decide)) ?_
      refine tp_nl ?_
      refine tp_ift (d_le (r_n (x := (0 : Int32)) (l := 0) (h := 0) (by decide) (by decide)) (r_n (x := (0 : Int32)) (l := 0) (h := 0) (by decide) (by decide)) (by decide)) ?_
      refine tp_b (t_f_X12_loads r6 h_q_q_1 h_q_q_2_1 h_q_q_2_2_2_2_1 h_q_q_2_2_2_2_2_1 h_q_q_2_2_2_2_2_2_1 h_q_q_2_2_2_2_2_2_2_1) (fun o23 h7 => ?_)
      obtain ⟨r8, r9⟩ := h7
      refine tp_e (f_X12_good.eq_1 _ _) ?_
      refine tp_nl ?_
      exact tp_s ⟨(r_w (l' := -1) (h' := 2147483647) r9 (by decide) (by decide)), (r_n (x := (0 : Int32)) (l := 0) (h := 0) (by decide) (by decide)), (r_w (l' := 0) (h' := 2) (r_n (x := (0 : Int32)) (l := 0) (h := 0) (by decide) (by decide)) (by decide) (by decide)), (r_n (x := (-1 : Int32)) (l := -1) (h := -1) (by decide) (by decide))⟩
theorem t_f_X12_bestDay_J92 {k36_ : Int32 → Int32 → Option (Int32 × TX12_t)} {v36_l4 : Int32} {v36_l5 : Int32} {v92_t1 : Int32} {N36 : Nat} (hk36 : ∀ (v36_l5 : Int32) (v36_l4 : Int32), R32 (0) (6) v36_l5 → (6 : Int) - v36_l5.toInt < (N36 : Nat) → TotP (k36_ v36_l5 v36_l4) (fun (r : Int32 × TX12_t) => R32 (0) (20) r.1 ∧ R32 (0) (0) r.2.1 ∧ R32 (0) (0) r.2.2.1 ∧ R32 (-1) (-1) r.2.2.2)) (hm36 : (6 : Int) - v36_l5.toInt < ((N36 + 1 : Nat) : Int)) (h_v36_l5 : R32 (0) (5) v36_l5) : TotP (f_X12_bestDay_J92 k36_ v36_l4 v36_l5 v92_t1) (fun (r : Int32 × TX12_t) => R32 (0) (20) r.1 ∧ R32 (0) (0) r.2.1 ∧ R32 (0) (0) r.2.2.1 ∧ R32 (-1) (-1) r.2.2.2) := by
  unfold f_X12_bestDay_J92
  exact hk36 _ _ (r_w (l' := 0) (h' := 6) (r_add (l := 1) (h := 6) h_v36_l5 (r_n (x := (1 : Int32)) (l := 1) (h := 1) (by decide) (by decide)) (by decide) (by decide) (by decide) (by decide)) (by decide) (by decide)) (ms_up (y := (1 : Int32)) h_v36_l5 (by decide) (by decide) (by decide) hm36)
theorem t_f_X12_bestDay_J115 {k24_ : Int32 → Int32 → Int32 → Option (Int32 × TX12_t)} {v24_l3 : Int32} {v115_l1 : Int32} {v115_l2 : Int32} {N24 : Nat} (hk24 : ∀ (v24_l3 : Int32) (v24_l2 : Int32) (v24_l1 : Int32), R32 (0) (21) v24_l3 → R32 (-1) (2147483647) v24_l2 → R32 (0) (20) v24_l1 → (21 : Int) - v24_l3.toInt < (N24 : Nat) → TotP (k24_ v24_l3 v24_l2 v24_l1) (fun (r : Int32 × TX12_t) => R32 (0) (20) r.1 ∧ R32 (0) (0) r.2.1 ∧ R32 (0) (0) r.2.2.1 ∧ R32 (-1) (-1) r.2.2.2)) (hm24 : (21 : Int) - v24_l3.toInt < ((N24 + 1 : Nat) : Int)) (h_v24_l3 : R32 (0) (20) v24_l3) (h_v115_l1 : R32 (0) (20) v115_l1) (h_v115_l2 : R32 (-1) (2147483647) v115_l2) : TotP (f_X12_bestDay_J115 k24_ v24_l3 v115_l1 v115_l2) (fun (r : Int32 × TX12_t) => R32 (0) (20) r.1 ∧ R32 (0) (0) r.2.1 ∧ R32 (0) (0) r.2.2.1 ∧ R32 (-1) (-1) r.2.2.2) := by
  unfold f_X12_bestDay_J115
  exact hk24 _ _ _ (r_w (l' := 0) (h' := 21) (r_add (l := 1) (h := 21) h_v24_l3 (r_n (x := (1 : Int32)) (l := 1) (h := 1) (by decide) (by decide)) (by decide) (by decide) (by decide) (by decide)) (by decide) (by decide)) h_v115_l2 h_v115_l1 (ms_up (y := (1 : Int32)) h_v24_l3 (by decide) (by decide) (by decide) hm24)
theorem t_f_X12_bestDay_L36 {m_v : TX12_v} {q_q : TX11_q} {k24_ : Int32 → Int32 → Int32 → Option (Int32 × TX12_t)} {v24_l1 : Int32} {v24_l2 : Int32} {v24_l3 : Int32} (h_q_q_1 : R32 (2) (8) q_q.1) (h_q_q_2_1 : R32 (1) (9) q_q.2.1) (h_q_q_2_2_2_2_1 : R32 (1) (4) q_q.2.2.2.2.1) (h_q_q_2_2_2_2_2_1 : R32 (0) (5) q_q.2.2.2.2.2.1) (h_q_q_2_2_2_2_2_2_1 : R32 (0) (6) q_q.2.2.2.2.2.2.1) (h_q_q_2_2_2_2_2_2_2_1 : R32 (0) (6) q_q.2.2.2.2.2.2.2.1) {N24 : Nat} (hk24 : ∀ (v24_l3 : Int32) (v24_l2 : Int32) (v24_l1 : Int32), R32 (0) (21) v24_l3 → R32 (-1) (2147483647) v24_l2 → R32 (0) (20) v24_l1 → (21 : Int) - v24_l3.toInt < (N24 : Nat) → TotP (k24_ v24_l3 v24_l2 v24_l1) (fun (r : Int32 × TX12_t) => R32 (0) (20) r.1 ∧ R32 (0) (0) r.2.1 ∧ R32 (0) (0) r.2.2.1 ∧ R32 (-1) (-1) r.2.2.2)) (hm24 : (21 : Int) - v24_l3.toInt < ((N24 + 1 : Nat) : Int)) (h_v24_l1 : R32 (0) (20) v24_l1) (h_v24_l2 : R32 (-1) (2147483647) v24_l2) (h_v24_l3 : R32 (0) (20) v24_l3) : ∀ (n : Nat) (v36_l5 : Int32) (v36_l4 : Int32), R32 (0) (6) v36_l5 → (6 : Int) - v36_l5.toInt < (n : Int) → TotP (f_X12_bestDay_L36 m_v q_q k24_ v24_l1 v24_l2 v24_l3 n v36_l5 v36_l4) (fun (r : Int32 × TX12_t) => R32 (0) (20) r.1 ∧ R32 (0) (0) r.2.1 ∧ R32 (0) (0) r.2.2.1 ∧ R32 (-1) (-1) r.2.2.2) := by
  intro n
  induction n with
  | zero =>
    intro v36_l5 v36_l4 h_v36_l5 hm
    exact (ms_0u h_v36_l5 hm).elim
  | succ n ih =>
    intro v36_l5 v36_l4 h_v36_l5 hm
    rw [f_X12_bestDay_L36]
    refine tp_if (fun c1 => ?_) (fun c1 => ?_)
    · skip
      refine tp_if (fun c2 => ?_) (fun c2 => ?_)
      · skip
        have r3 : R32 (-1) (2147483646) v24_l2 := r_lt1 (by decide) h_v24_l2 (r_top _) c2
        have r4 : R32 (0) (2147483647) v36_l4 := r_lt2 (by decide) h_v24_l2 (r_top _) c2
        exact t_f_X12_bestDay_J115 hk24 hm24 h_v24_l3 h_v24_l3 (r_w (l' := -1) (h' := 2147483647) r4 (by decide) (by decide))
      · skip
        exact t_f_X12_bestDay_J115 hk24 hm24 h_v24_l3 h_v24_l1 h_v24_l2
    · skip
      have r5 : R32 (1) (6) q_q.2.2.2.2.2.2.1 := r_nle1 (by decide) h_q_q_2_2_2_2_2_2_1 h_v36_l5 c1
      have r6 : R32 (0) (5) v36_l5 := r_nle2 (by decide) h_q_q_2_2_2_2_2_2_1 h_v36_l5 c1
      refine tp_g (r_add (l := 0) (h := 5) (r_n (x := (0 : Int32)) (l := 0) (h := 0) (by decide) (by decide)) r6 (by decide) (by decide) (by decide) (by decide)) (by decide) (by decide) ?_
      refine tp_if (fun c7 => ?_) (fun c7 => ?_)
      · skip
        have r8 : R32 (1) (1) (m_v (((0 : Int32) + v36_l5)).toNatClampNeg) := r_eq1 (l := 1) (h := 1) (by decide) (by decide) (r_top _) (r_n (x := (1 : Int32)) (l := 1) (h := 1) (by decide) (by decide)) c7
        refine tp_g (r_add (l := 6) (h := 11) (r_n (x := (6 : Int32)) (l := 6) (h := 6) (by decide) (by decide)) r6 (by decide) (by decide) (by decide) (by decide)) (by decide) (by decide) ?_
        refine tp_b (t_f_X12_keeps r6 h_q_q_1 h_q_q_2_1 h_q_q_2_2_2_2_1 h_q_q_2_2_2_2_2_1 r5 h_q_q_2_2_2_2_2_2_2_1) (fun o85 h9 => ?_)
        exact t_f_X12_bestDay_J92 ih hm r6
      · skip
        exact t_f_X12_bestDay_J92 ih hm r6
theorem t_f_X12_bestDay_L24 {m_t : TX12_t} {m_v : TX12_v} {q_q : TX11_q} (h_q_q_1 : R32 (2) (8) q_q.1) (h_q_q_2_1 : R32 (1) (9) q_q.2.1) (h_q_q_2_2_2_2_1 : R32 (1) (4) q_q.2.2.2.2.1) (h_q_q_2_2_2_2_2_1 : R32 (0) (5) q_q.2.2.2.2.2.1) (h_q_q_2_2_2_2_2_2_1 : R32 (0) (6) q_q.2.2.2.2.2.2.1) (h_q_q_2_2_2_2_2_2_2_1 : R32 (0) (6) q_q.2.2.2.2.2.2.2.1) : ∀ (n : Nat) (v24_l3 : Int32) (v24_l2 : Int32) (v24_l1 : Int32), R32 (0) (21) v24_l3 → R32 (-1) (2147483647) v24_l2 → R32 (0) (20) v24_l1 → (21 : Int) - v24_l3.toInt < (n : Int) → TotP (f_X12_bestDay_L24 m_t m_v q_q n v24_l3 v24_l2 v24_l1) (fun (r : Int32 × TX12_t) => R32 (0) (20) r.1 ∧ R32 (0) (0) r.2.1 ∧ R32 (0) (0) r.2.2.1 ∧ R32 (-1) (-1) r.2.2.2) := by
  intro n
  induction n with
  | zero =>
    intro v24_l3 v24_l2 v24_l1 h_v24_l3 h_v24_l2 h_v24_l1 hm
    exact (ms_0u h_v24_l3 hm).elim
  | succ n ih =>
    intro v24_l3 v24_l2 v24_l1 h_v24_l3 h_v24_l2 h_v24_l1 hm
    rw [f_X12_bestDay_L24]
    refine tp_if (fun c1 => ?_) (fun c1 => ?_)
    · skip
      have r2 : R32 (21) (21) v24_l3 := r_lt2 (by decide) (r_n (x := (20 : Int32)) (l := 20) (h := 20) (by decide) (by decide)) h_v24_l3 c1
      refine tp_e (f_X12_good.eq_1 _ _) ?_
      refine tp_nl ?_
      exact tp_s ⟨h_v24_l1, (r_n (x := (0 : Int32)) (l := 0) (h := 0) (by decide) (by decide)), (r_n (x := (0 : Int32)) (l := 0) (h := 0) (by decide) (by decide)), (r_n (x := (-1 : Int32)) (l := -1) (h := -1) (by decide) (by decide))⟩
    · skip
      have r3 : R32 (0) (20) v24_l3 := r_nlt2 (r_n (x := (20 : Int32)) (l := 20) (h := 20) (by decide) (by decide)) h_v24_l3 c1
      exact t_f_X12_bestDay_L36 h_q_q_1 h_q_q_2_1 h_q_q_2_2_2_2_1 h_q_q_2_2_2_2_2_1 h_q_q_2_2_2_2_2_2_1 h_q_q_2_2_2_2_2_2_2_1 ih hm h_v24_l1 h_v24_l2 r3 FU _ _ (r_w (l' := 0) (h' := 6) (r_n (x := (0 : Int32)) (l := 0) (h := 0) (by decide) (by decide)) (by decide) (by decide)) (fu_up (r_w (l' := 0) (h' := 6) (r_n (x := (0 : Int32)) (l := 0) (h := 0) (by decide) (by decide)) (by decide) (by decide)) (by decide))
theorem t_f_X12_bestDay {m_t : TX12_t} {m_v : TX12_v} {q_q : TX11_q} (h_q_q_1 : R32 (2) (8) q_q.1) (h_q_q_2_1 : R32 (1) (9) q_q.2.1) (h_q_q_2_2_2_2_1 : R32 (1) (4) q_q.2.2.2.2.1) (h_q_q_2_2_2_2_2_1 : R32 (0) (5) q_q.2.2.2.2.2.1) (h_q_q_2_2_2_2_2_2_1 : R32 (0) (6) q_q.2.2.2.2.2.2.1) (h_q_q_2_2_2_2_2_2_2_1 : R32 (0) (6) q_q.2.2.2.2.2.2.2.1) : TotP (f_X12_bestDay m_t m_v q_q) (fun (r : Int32 × TX12_t) => R32 (0) (20) r.1 ∧ R32 (0) (0) r.2.1 ∧ R32 (0) (0) r.2.2.1 ∧ R32 (-1) (-1) r.2.2.2) := by
  unfold f_X12_bestDay
  exact t_f_X12_bestDay_L24 h_q_q_1 h_q_q_2_1 h_q_q_2_2_2_2_1 h_q_q_2_2_2_2_2_1 h_q_q_2_2_2_2_2_2_1 h_q_q_2_2_2_2_2_2_2_1 FU _ _ _ (r_w (l' := 0) (h' := 21) (r_n (x := (0 : Int32)) (l := 0) (h := 0) (by decide) (by decide)) (by decide) (by decide)) (r_w (l' := -1) (h' := 2147483647) (r_n (x := (-1 : Int32)) (l := -1) (h := -1) (by decide) (by decide)) (by decide) (by decide)) (r_w (l' := 0) (h' := 20) (r_n (x := (0 : Int32)) (l := 0) (h := 0) (by decide) (by decide)) (by decide) (by decide)) (fu_up (r_w (l' := 0) (h' := 21) (r_n (x := (0 : Int32)) (l := 0) (h := 0) (by decide) (by decide)) (by decide) (by decide)) (by decide))
theorem t_f_X12_hooks_J34 {m_t : TX12_t} : TotP (f_X12_hooks_J34 m_t) (fun (r : Int32 × TX12_t) => R32 (0) (0) r.2.1 ∧ R32 (0) (5) r.2.2.1 ∧ R32 (-1) (-1) r.2.2.2) := by
  unfold f_X12_hooks_J34
  refine tp_e (f_X12_refused.eq_1 _ _) ?_
  refine tp_nl ?_
  exact tp_s ⟨(r_n (x := (0 : Int32)) (l := 0) (h := 0) (by decide) (by decide)), (r_w (l' := 0) (h' := 5) (r_n (x := (1 : Int32)) (l := 1) (h := 1) (by decide) (by decide)) (by decide) (by decide)), (r_n (x := (-1 : Int32)) (l := -1) (h := -1) (by decide) (by decide))⟩
theorem t_f_X12_hooks_J86 {m_t : TX12_t} : TotP (f_X12_hooks_J86 m_t) (fun (r : Int32 × TX12_t) => R32 (0) (0) r.2.1 ∧ R32 (0) (5) r.2.2.1 ∧ R32 (-1) (-1) r.2.2.2) := by
  unfold f_X12_hooks_J86
  refine tp_e (f_X12_refused.eq_1 _ _) ?_
  refine tp_nl ?_
  exact tp_s ⟨(r_n (x := (0 : Int32)) (l := 0) (h := 0) (by decide) (by decide)), (r_w (l' := 0) (h' := 5) (r_n (x := (5 : Int32)) (l := 5) (h := 5) (by decide) (by decide)) (by decide) (by decide)), (r_n (x := (-1 : Int32)) (l := -1) (h := -1) (by decide) (by decide))⟩
theorem t_f_X12_hooks_J195 {k4 : Int32} {m_t : TX12_t} {o103 : Int32} {o119 : Int32} {v195_t2 : Int32} (h_k4 : R32 (0) (999) k4) (h_o103 : R32 (0) (100) o103) (h_o119 : R32 (0) (100) o119) : TotP (f_X12_hooks_J195 k4 m_t o103 o119 v195_t2) (fun (r : Int32 × TX12_t) => R32 (0) (0) r.2.1 ∧ R32 (0) (5) r.2.2.1 ∧ R32 (-1) (-1) r.2.2.2) := by
  unfold f_X12_hooks_J195
  refine tp_e (f_X12_good.eq_1 _ _) ?_
  refine tp_nl ?_
  exact tp_s ⟨(r_n (x := (0 : Int32)) (l := 0) (h := 0) (by decide) (by decide)), (r_w (l' := 0) (h' := 5) (r_n (x := (0 : Int32)) (l := 0) (h := 0) (by decide) (by decide)) (by decide) (by decide)), (r_n (x := (-1 : Int32)) (l := -1) (h := -1) (by decide) (by decide))⟩
theorem t_f_X12_hooks_J216 {k4 : Int32} {m_t : TX12_t} {o103 : Int32} {o119 : Int32} {v216_t2 : Int32} (h_k4 : R32 (0) (999) k4) (h_o103 : R32 (0) (100) o103) (h_o119 : R32 (0) (100) o119) : TotP (f_X12_hooks_J216 k4 m_t o103 o119 v216_t2) (fun (r : Int32 × TX12_t) => R32 (0) (0) r.2.1 ∧ R32 (0) (5) r.2.2.1 ∧ R32 (-1) (-1) r.2.2.2) := by
  unfold f_X12_hooks_J216
  refine tp_e (f_X12_good.eq_1 _ _) ?_
  refine tp_nl ?_
  exact tp_s ⟨(r_n (x := (0 : Int32)) (l := 0) (h := 0) (by decide) (by decide)), (r_w (l' := 0) (h' := 5) (r_n (x := (0 : Int32)) (l := 0) (h := 0) (by decide) (by decide)) (by decide) (by decide)), (r_n (x := (-1 : Int32)) (l := -1) (h := -1) (by decide) (by decide))⟩
theorem t_f_X12_hooks {k1 : Int32} {k2 : Int32} {k3 : Int32} {k4 : Int32} {k5 : Int32} {m_t : TX12_t} {m_v : TX12_v} {q_q : TX11_q} (h_q_q_1 : R32 (2) (8) q_q.1) (h_q_q_2_1 : R32 (1) (9) q_q.2.1) (h_q_q_2_2_2_2_1 : R32 (1) (4) q_q.2.2.2.2.1) (h_q_q_2_2_2_2_2_1 : R32 (0) (5) q_q.2.2.2.2.2.1) (h_q_q_2_2_2_2_2_2_1 : R32 (0) (6) q_q.2.2.2.2.2.2.1) (h_q_q_2_2_2_2_2_2_2_1 : R32 (0) (6) q_q.2.2.2.2.2.2.2.1) : TotP (f_X12_hooks k1 k2 k3 k4 k5 m_t m_v q_q) (fun (r : Int32 × TX12_t) => R32 (0) (0) r.2.1 ∧ R32 (0) (5) r.2.2.1 ∧ R32 (-1) (-1) r.2.2.2) := by
  unfold f_X12_hooks
  refine tp_e (f_X12_isAnswer.eq_1 _ _) ?_
  refine tp_nif (fun c1 => ?_) (fun c1 => ?_)
  · skip
    have r2 : R32 (-2147483648) (-1) k1 := r_lt1 (by decide) (r_top _) (r_n (x := (0 : Int32)) (l := 0) (h := 0) (by decide) (by decide)) c1
    refine tp_nl ?_
    refine tp_ift (d_eq (r_n (x := (0 : Int32)) (l := 0) (h := 0) (by decide) (by decide)) (r_n (x := (0 : Int32)) (l := 0) (h := 0) (by decide) (by decide))) ?_
    exact t_f_X12_hooks_J34 
  · skip
    have r3 : R32 (0) (2147483647) k1 := r_nlt1 (r_top _) (r_n (x := (0 : Int32)) (l := 0) (h := 0) (by decide) (by decide)) c1
    refine tp_nif (fun c4 => ?_) (fun c4 => ?_)
    · skip
      refine tp_nl ?_
      refine tp_ift (d_eq (r_n (x := (0 : Int32)) (l := 0) (h := 0) (by decide) (by decide)) (r_n (x := (0 : Int32)) (l := 0) (h := 0) (by decide) (by decide))) ?_
      exact t_f_X12_hooks_J34 
    · skip
      have r5 : R32 (1) (6) q_q.2.2.2.2.2.2.1 := r_nle1 (by decide) h_q_q_2_2_2_2_2_2_1 r3 c4
      have r6 : R32 (0) (5) k1 := r_nle2 (by decide) h_q_q_2_2_2_2_2_2_1 r3 c4
      refine tp_nl ?_
      refine tp_iff (d_ne2 (r_n (x := (1 : Int32)) (l := 1) (h := 1) (by decide) (by decide)) (r_n (x := (0 : Int32)) (l := 0) (h := 0) (by decide) (by decide)) (by decide)) ?_
      refine tp_e (f_X12_isAsker.eq_1 _ _) ?_
      refine tp_nif (fun c7 => ?_) (fun c7 => ?_)
      · skip
        have r8 : R32 (-2147483648) (-1) k2 := r_lt1 (by decide) (r_top _) (r_n (x := (0 : Int32)) (l := 0) (h := 0) (by decide) (by decide)) c7
        refine tp_nl ?_
        refine tp_ift (d_eq (r_n (x := (0 : Int32)) (l := 0) (h := 0) (by decide) (by decide)) (r_n (x := (0 : Int32)) (l := 0) (h := 0) (by decide) (by decide))) ?_
        exact t_f_X12_hooks_J34 
      · skip
        have r9 : R32 (0) (2147483647) k2 := r_nlt1 (r_top _) (r_n (x := (0 : Int32)) (l := 0) (h := 0) (by decide) (by decide)) c7
        refine tp_nif (fun c10 => ?_) (fun c10 => ?_)
        · skip
          refine tp_nl ?_
          refine tp_ift (d_eq (r_n (x := (0 : Int32)) (l := 0) (h := 0) (by decide) (by decide)) (r_n (x := (0 : Int32)) (l := 0) (h := 0) (by decide) (by decide))) ?_
          exact t_f_X12_hooks_J34 
        · skip
          have r11 : R32 (1) (5) q_q.2.2.2.2.2.1 := r_nle1 (by decide) h_q_q_2_2_2_2_2_1 r9 c10
          have r12 : R32 (0) (4) k2 := r_nle2 (by decide) h_q_q_2_2_2_2_2_1 r9 c10
          refine tp_nl ?_
          refine tp_iff (d_ne2 (r_n (x := (1 : Int32)) (l := 1) (h := 1) (by decide) (by decide)) (r_n (x := (0 : Int32)) (l := 0) (h := 0) (by decide) (by decide)) (by decide)) ?_
          refine tp_e (f_X12_isAsker.eq_1 _ _) ?_
          refine tp_nif (fun c13 => ?_) (fun c13 => ?_)
          · skip
            have r14 : R32 (-2147483648) (-1) k3 := r_lt1 (by decide) (r_top _) (r_n (x := (0 : Int32)) (l := 0) (h := 0) (by decide) (by decide)) c13
            refine tp_nl ?_
            refine tp_ift (d_eq (r_n (x := (0 : Int32)) (l := 0) (h := 0) (by decide) (by decide)) (r_n (x := (0 : Int32)) (l := 0) (h := 0) (by decide) (by decide))) ?_
            exact t_f_X12_hooks_J34 
          · skip
            have r15 : R32 (0) (2147483647) k3 := r_nlt1 (r_top _) (r_n (x := (0 : Int32)) (l := 0) (h := 0) (by decide) (by decide)) c13
            refine tp_nif (fun c16 => ?_) (fun c16 => ?_)
            · skip
              have r17 : R32 (1) (2147483647) k3 := r_le2 r11 r15 c16
              refine tp_nl ?_
              refine tp_ift (d_eq (r_n (x := (0 : Int32)) (l := 0) (h := 0) (by decide) (by decide)) (r_n (x := (0 : Int32)) (l := 0) (h := 0) (by decide) (by decide))) ?_
              exact t_f_X12_hooks_J34 
            · skip
              have r18 : R32 (0) (4) k3 := r_nle2 (by decide) r11 r15 c16
              refine tp_nl ?_
              refine tp_iff (d_ne2 (r_n (x := (1 : Int32)) (l := 1) (h := 1) (by decide) (by decide)) (r_n (x := (0 : Int32)) (l := 0) (h := 0) (by decide) (by decide)) (by decide)) ?_
              refine tp_if (fun c19 => ?_) (fun c19 => ?_)
              · skip
                exact t_f_X12_hooks_J34 
              · skip
                refine tp_e (f_X12_in.eq_1 _ _ _) ?_
                refine tp_nif (fun c20 => ?_) (fun c20 => ?_)
                · skip
                  have r21 : R32 (-2147483648) (-1) k4 := r_lt1 (by decide) (r_top _) (r_n (x := (0 : Int32)) (l := 0) (h := 0) (by decide) (by decide)) c20
                  refine tp_nl ?_
                  refine tp_ift (d_eq (r_n (x := (0 : Int32)) (l := 0) (h := 0) (by decide) (by decide)) (r_n (x := (0 : Int32)) (l := 0) (h := 0) (by decide) (by decide))) ?_
                  refine tp_e (f_X12_refused.eq_1 _ _) ?_
                  refine tp_nl ?_
                  exact tp_s ⟨(r_n (x := (0 : Int32)) (l := 0) (h := 0) (by decide) (by decide)), (r_w (l' := 0) (h' := 5) (r_n (x := (2 : Int32)) (l := 2) (h := 2) (by decide) (by decide)) (by decide) (by decide)), (r_n (x := (-1 : Int32)) (l := -1) (h := -1) (by decide) (by decide))⟩
                · skip
                  have r22 : R32 (0) (2147483647) k4 := r_nlt1 (r_top _) (r_n (x := (0 : Int32)) (l := 0) (h := 0) (by decide) (by decide)) c20
                  refine tp_nif (fun c23 => ?_) (fun c23 => ?_)
                  · skip
                    have r24 : R32 (1000) (2147483647) k4 := r_lt2 (by decide) (r_n (x := (999 : Int32)) (l := 999) (h := 999) (by decide) (by decide)) r22 c23
                    refine tp_nl ?_
                    refine tp_ift (d_eq (r_n (x := (0 : Int32)) (l := 0) (h := 0) (by decide) (by decide)) (r_n (x := (0 : Int32)) (l := 0) (h := 0) (by decide) (by decide))) ?_
                    refine tp_e (f_X12_refused.eq_1 _ _) ?_
                    refine tp_nl ?_
                    exact tp_s ⟨(r_n (x := (0 : Int32)) (l := 0) (h := 0) (by decide) (by decide)), (r_w (l' := 0) (h' := 5) (r_n (x := (2 : Int32)) (l := 2) (h := 2) (by decide) (by decide)) (by decide) (by decide)), (r_n (x := (-1 : Int32)) (l := -1) (h := -1) (by decide) (by decide))⟩
                  · skip
                    have r25 : R32 (0) (999) k4 := r_nlt2 (r_n (x := (999 : Int32)) (l := 999) (h := 999) (by decide) (by decide)) r22 c23
                    refine tp_nl ?_
                    refine tp_iff (d_ne2 (r_n (x := (1 : Int32)) (l := 1) (h := 1) (by decide) (by decide)) (r_n (x := (0 : Int32)) (l := 0) (h := 0) (by decide) (by decide)) (by decide)) ?_
                    refine tp_g (r_add (l := 18) (h := 22) (r_n (x := (18 : Int32)) (l := 18) (h := 18) (by decide) (by decide)) r12 (by decide) (by decide) (by decide) (by decide)) (by decide) (by decide) ?_
                    refine tp_if (fun c26 => ?_) (fun c26 => ?_)
                    · skip
                      have r27 : R32 (-2) (-2) (m_v (((18 : Int32) + k2)).toNatClampNeg) := r_eq1 (l := -2) (h := -2) (by decide) (by decide) (r_top _) (r_n (x := (-2 : Int32)) (l := -2) (h := -2) (by decide) (by decide)) c26
                      exact t_f_X12_hooks_J86 
                    · skip
                      refine tp_g (r_add (l := 18) (h := 22) (r_n (x := (18 : Int32)) (l := 18) (h := 18) (by decide) (by decide)) r18 (by decide) (by decide) (by decide) (by decide)) (by decide) (by decide) ?_
                      refine tp_if (fun c28 => ?_) (fun c28 => ?_)
                      · skip
                        have r29 : R32 (-2) (-2) (m_v (((18 : Int32) + k3)).toNatClampNeg) := r_eq1 (l := -2) (h := -2) (by decide) (by decide) (r_top _) (r_n (x := (-2 : Int32)) (l := -2) (h := -2) (by decide) (by decide)) c28
                        exact t_f_X12_hooks_J86 
                      · skip
                        refine tp_g (r_add (l := 18) (h := 22) (r_n (x := (18 : Int32)) (l := 18) (h := 18) (by decide) (by decide)) r12 (by decide) (by decide) (by decide) (by decide)) (by decide) (by decide) ?_
                        refine tp_b (t_f_X12_wishOf r6 h_q_q_1 h_q_q_2_1 h_q_q_2_2_2_2_1 (r_w (l' := 0) (h' := 5) r11 (by decide) (by decide)) r5 h_q_q_2_2_2_2_2_2_2_1) (fun o103 h30 => ?_)
                        refine tp_g (r_add (l := 18) (h := 22) (r_n (x := (18 : Int32)) (l := 18) (h := 18) (by decide) (by decide)) r18 (by decide) (by decide) (by decide) (by decide)) (by decide) (by decide) ?_
                        refine tp_b (t_f_X12_wishOf r6 h_q_q_1 h_q_q_2_1 h_q_q_2_2_2_2_1 (r_w (l' := 0) (h' := 5) r11 (by decide) (by decide)) r5 h_q_q_2_2_2_2_2_2_2_1) (fun o119 h31 => ?_)
                        refine tp_if (fun c32 => ?_) (fun c32 => ?_)
                        · skip
                          have r33 : R32 (0) (0) (o103 + o119) := r_eq1 (l := 0) (h := 0) (by decide) (by decide) (r_add (l := 0) (h := 200) h30 h31 (by decide) (by decide) (by decide) (by decide)) (r_n (x := (0 : Int32)) (l := 0) (h := 0) (by decide) (by decide)) c32
                          refine tp_e (f_X12_good.eq_1 _ _) ?_
                          refine tp_nl ?_
                          exact tp_s ⟨(r_n (x := (0 : Int32)) (l := 0) (h := 0) (by decide) (by decide)), (r_w (l' := 0) (h' := 5) (r_n (x := (0 : Int32)) (l := 0) (h := 0) (by decide) (by decide)) (by decide) (by decide)), (r_n (x := (-1 : Int32)) (l := -1) (h := -1) (by decide) (by decide))⟩
                        · skip
                          have r34 : R32 (1) (200) (o103 + o119) := r_neL (by decide) (r_add (l := 0) (h := 200) h30 h31 (by decide) (by decide) (by decide) (by decide)) (r_n (x := (0 : Int32)) (l := 0) (h := 0) (by decide) (by decide)) c32
                          refine tp_zc c32 ?_
                          refine tp_zc c32 ?_
                          refine tp_n0 (fun z171 => ?_)
                          refine tp_if (fun c35 => ?_) (fun c35 => ?_)
                          · skip
                            have r36 : R32 (0) (0) k5 := r_eq1 (l := 0) (h := 0) (by decide) (by decide) (r_top _) (r_n (x := (0 : Int32)) (l := 0) (h := 0) (by decide) (by decide)) c35
                            refine tp_if (fun c37 => ?_) (fun c37 => ?_)
                            · skip
                              have r38 : R32 (0) (99) o103 := r_lt1 (by decide) h30 h31 c37
                              have r39 : R32 (1) (100) o119 := r_lt2 (by decide) h30 h31 c37
                              exact t_f_X12_hooks_J216 r25 (r_w (l' := 0) (h' := 100) r38 (by decide) (by decide)) (r_w (l' := 0) (h' := 100) r39 (by decide) (by decide))
                            · skip
                              exact t_f_X12_hooks_J216 r25 h30 h31
                          · skip
                            refine tp_if (fun c40 => ?_) (fun c40 => ?_)
                            · skip
                              exact t_f_X12_hooks_J195 r25 h30 h31
                            · skip
                              have r41 : R32 (1) (100) o119 := r_nle1 (by decide) h31 h30 c40
                              have r42 : R32 (0) (99) o103 := r_nle2 (by decide) h31 h30 c40
                              exact t_f_X12_hooks_J195 r25 (r_w (l' := 0) (h' := 100) r42 (by decide) (by decide)) (r_w (l' := 0) (h' := 100) r41 (by decide) (by decide))
theorem t_f_X12_gets_J15 {k1 : Int32} {v15_t0 : Int32} (h_k1 : R32 (0) (6) k1) : TotP (f_X12_gets_J15 k1 v15_t0) (fun (r : Int32) => True) := by
  unfold f_X12_gets_J15
  exact tp_s trivial
theorem t_f_X12_gets {k0 : Int32} {k1 : Int32} {k2 : Int32} (h_k0 : R32 (0) (99) k0) (h_k1 : R32 (0) (6) k1) (h_k2 : R32 (0) (6) k2) : TotP (f_X12_gets k0 k1 k2) (fun (r : Int32) => True) := by
  unfold f_X12_gets
  refine tp_if (fun c1 => ?_) (fun c1 => ?_)
  · skip
    have r2 : R32 (0) (0) k1 := r_eq1 (l := 0) (h := 0) (by decide) (by decide) h_k1 (r_n (x := (0 : Int32)) (l := 0) (h := 0) (by decide) (by decide)) c1
    exact t_f_X12_gets_J15 (r_w (l' := 0) (h' := 6) r2 (by decide) (by decide))
  · skip
    have r3 : R32 (1) (6) k1 := r_neL (by decide) h_k1 (r_n (x := (0 : Int32)) (l := 0) (h := 0) (by decide) (by decide)) c1
    refine tp_zp (r_add (l := 1) (h := 12) r3 h_k2 (by decide) (by decide) (by decide) (by decide)) (by decide) ?_
    exact t_f_X12_gets_J15 (r_w (l' := 0) (h' := 6) r3 (by decide) (by decide))
theorem t_f_X12_lines_J48 {m_t : TX12_t} : TotP (f_X12_lines_J48 m_t) (fun (r : Int32 × TX12_t) => R32 (0) (0) r.2.1 ∧ R32 (0) (2) r.2.2.1 ∧ R32 (-1) (-1) r.2.2.2) := by
  unfold f_X12_lines_J48
  refine tp_e (f_X12_lost.eq_1 _ _) ?_
  refine tp_nn ?_
  refine tp_e (f_X12_refused.eq_1 _ _) ?_
  refine tp_nl ?_
  refine tp_nl ?_
  exact tp_s ⟨(r_n (x := (0 : Int32)) (l := 0) (h := 0) (by decide) (by decide)), (r_w (l' := 0) (h' := 2) (r_n (x := (2 : Int32)) (l := 2) (h := 2) (by decide) (by decide)) (by decide) (by decide)), (r_n (x := (-1 : Int32)) (l := -1) (h := -1) (by decide) (by decide))⟩
theorem t_f_X12_lines_J75 {m_t : TX12_t} {v75_t1 : Int32} : TotP (f_X12_lines_J75 m_t v75_t1) (fun (r : Int32 × TX12_t) => R32 (0) (0) r.2.1 ∧ R32 (0) (2) r.2.2.1 ∧ R32 (-1) (-1) r.2.2.2) := by
  unfold f_X12_lines_J75
  refine tp_e (f_X12_good.eq_1 _ _) ?_
  refine tp_nl ?_
  exact tp_s ⟨(r_n (x := (0 : Int32)) (l := 0) (h := 0) (by decide) (by decide)), (r_w (l' := 0) (h' := 2) (r_n (x := (0 : Int32)) (l := 0) (h := 0) (by decide) (by decide)) (by decide) (by decide)), (r_n (x := (-1 : Int32)) (l := -1) (h := -1) (by decide) (by decide))⟩
theorem t_f_X12_lines {k1 : Int32} {k2 : Int32} {k3 : Int32} {k4 : Int32} {m_t : TX12_t} : TotP (f_X12_lines k1 k2 k3 k4 m_t) (fun (r : Int32 × TX12_t) => R32 (0) (0) r.2.1 ∧ R32 (0) (2) r.2.2.1 ∧ R32 (-1) (-1) r.2.2.2) := by
  unfold f_X12_lines
  refine tp_e (f_X12_in.eq_1 _ _ _) ?_
  refine tp_nif (fun c1 => ?_) (fun c1 => ?_)
  · skip
    have r2 : R32 (-2147483648) (-1) k1 := r_lt1 (by decide) (r_top _) (r_n (x := (0 : Int32)) (l := 0) (h := 0) (by decide) (by decide)) c1
    refine tp_nl ?_
    refine tp_ift (d_eq (r_n (x := (0 : Int32)) (l := 0) (h := 0) (by decide) (by decide)) (r_n (x := (0 : Int32)) (l := 0) (h := 0) (by decide) (by decide))) ?_
    exact t_f_X12_lines_J48 
  · skip
    have r3 : R32 (0) (2147483647) k1 := r_nlt1 (r_top _) (r_n (x := (0 : Int32)) (l := 0) (h := 0) (by decide) (by decide)) c1
    refine tp_nif (fun c4 => ?_) (fun c4 => ?_)
    · skip
      have r5 : R32 (100) (2147483647) k1 := r_lt2 (by decide) (r_n (x := (99 : Int32)) (l := 99) (h := 99) (by decide) (by decide)) r3 c4
      refine tp_nl ?_
      refine tp_ift (d_eq (r_n (x := (0 : Int32)) (l := 0) (h := 0) (by decide) (by decide)) (r_n (x := (0 : Int32)) (l := 0) (h := 0) (by decide) (by decide))) ?_
      exact t_f_X12_lines_J48 
    · skip
      have r6 : R32 (0) (99) k1 := r_nlt2 (r_n (x := (99 : Int32)) (l := 99) (h := 99) (by decide) (by decide)) r3 c4
      refine tp_nl ?_
      refine tp_iff (d_ne2 (r_n (x := (1 : Int32)) (l := 1) (h := 1) (by decide) (by decide)) (r_n (x := (0 : Int32)) (l := 0) (h := 0) (by decide) (by decide)) (by decide)) ?_
      refine tp_e (f_X12_in.eq_1 _ _ _) ?_
      refine tp_nif (fun c7 => ?_) (fun c7 => ?_)
      · skip
        have r8 : R32 (-2147483648) (-1) k2 := r_lt1 (by decide) (r_top _) (r_n (x := (0 : Int32)) (l := 0) (h := 0) (by decide) (by decide)) c7
        refine tp_nl ?_
        refine tp_ift (d_eq (r_n (x := (0 : Int32)) (l := 0) (h := 0) (by decide) (by decide)) (r_n (x := (0 : Int32)) (l := 0) (h := 0) (by decide) (by decide))) ?_
        exact t_f_X12_lines_J48 
      · skip
        have r9 : R32 (0) (2147483647) k2 := r_nlt1 (r_top _) (r_n (x := (0 : Int32)) (l := 0) (h := 0) (by decide) (by decide)) c7
        refine tp_nif (fun c10 => ?_) (fun c10 => ?_)
        · skip
          have r11 : R32 (7) (2147483647) k2 := r_lt2 (by decide) (r_n (x := (6 : Int32)) (l := 6) (h := 6) (by decide) (by decide)) r9 c10
          refine tp_nl ?_
          refine tp_ift (d_eq (r_n (x := (0 : Int32)) (l := 0) (h := 0) (by decide) (by decide)) (r_n (x := (0 : Int32)) (l := 0) (h := 0) (by decide) (by decide))) ?_
          exact t_f_X12_lines_J48 
        · skip
          have r12 : R32 (0) (6) k2 := r_nlt2 (r_n (x := (6 : Int32)) (l := 6) (h := 6) (by decide) (by decide)) r9 c10
          refine tp_nl ?_
          refine tp_iff (d_ne2 (r_n (x := (1 : Int32)) (l := 1) (h := 1) (by decide) (by decide)) (r_n (x := (0 : Int32)) (l := 0) (h := 0) (by decide) (by decide)) (by decide)) ?_
          refine tp_e (f_X12_in.eq_1 _ _ _) ?_
          refine tp_nif (fun c13 => ?_) (fun c13 => ?_)
          · skip
            have r14 : R32 (-2147483648) (-1) k3 := r_lt1 (by decide) (r_top _) (r_n (x := (0 : Int32)) (l := 0) (h := 0) (by decide) (by decide)) c13
            refine tp_nl ?_
            refine tp_ift (d_eq (r_n (x := (0 : Int32)) (l := 0) (h := 0) (by decide) (by decide)) (r_n (x := (0 : Int32)) (l := 0) (h := 0) (by decide) (by decide))) ?_
            exact t_f_X12_lines_J48 
          · skip
            have r15 : R32 (0) (2147483647) k3 := r_nlt1 (r_top _) (r_n (x := (0 : Int32)) (l := 0) (h := 0) (by decide) (by decide)) c13
            refine tp_nif (fun c16 => ?_) (fun c16 => ?_)
            · skip
              have r17 : R32 (7) (2147483647) k3 := r_lt2 (by decide) (r_n (x := (6 : Int32)) (l := 6) (h := 6) (by decide) (by decide)) r15 c16
              refine tp_nl ?_
              refine tp_ift (d_eq (r_n (x := (0 : Int32)) (l := 0) (h := 0) (by decide) (by decide)) (r_n (x := (0 : Int32)) (l := 0) (h := 0) (by decide) (by decide))) ?_
              exact t_f_X12_lines_J48 
            · skip
              have r18 : R32 (0) (6) k3 := r_nlt2 (r_n (x := (6 : Int32)) (l := 6) (h := 6) (by decide) (by decide)) r15 c16
              refine tp_nl ?_
              refine tp_iff (d_ne2 (r_n (x := (1 : Int32)) (l := 1) (h := 1) (by decide) (by decide)) (r_n (x := (0 : Int32)) (l := 0) (h := 0) (by decide) (by decide)) (by decide)) ?_
              refine tp_if (fun c19 => ?_) (fun c19 => ?_)
              · skip
                have r20 : R32 (0) (0) k4 := r_eq1 (l := 0) (h := 0) (by decide) (by decide) (r_top _) (r_n (x := (0 : Int32)) (l := 0) (h := 0) (by decide) (by decide)) c19
                refine tp_b (t_f_X12_gets r6 r12 r18) (fun o72 h21 => ?_)
                exact t_f_X12_lines_J75 
              · skip
                refine tp_b (t_f_X12_gets r6 r18 r12) (fun o63 h22 => ?_)
                exact t_f_X12_lines_J75 
theorem t_f_X12_isRest_L2 {k0 : Int32} {k1 : Int32} {k2 : Int32} (h_k0 : R32 (0) (99) k0) (h_k1 : R32 (0) (6) k1) (h_k2 : R32 (0) (6) k2) : ∀ (n : Nat) (v2_l3 : Int32), R32 (0) (7) v2_l3 → (7 : Int) - v2_l3.toInt < (n : Int) → TotP (f_X12_isRest_L2 k0 k1 k2 n v2_l3) (fun (r : Int32) => R32 (0) (1) r) := by
  intro n
  induction n with
  | zero =>
    intro v2_l3 h_v2_l3 hm
    exact (ms_0u h_v2_l3 hm).elim
  | succ n ih =>
    intro v2_l3 h_v2_l3 hm
    rw [f_X12_isRest_L2]
    refine tp_if (fun c1 => ?_) (fun c1 => ?_)
    · skip
      have r2 : R32 (7) (7) v2_l3 := r_le2 (r_n (x := (7 : Int32)) (l := 7) (h := 7) (by decide) (by decide)) h_v2_l3 c1
      exact tp_s (r_w (l' := 0) (h' := 1) (r_n (x := (1 : Int32)) (l := 1) (h := 1) (by decide) (by decide)) (by decide) (by decide))
    · skip
      have r3 : R32 (0) (6) v2_l3 := r_nle2 (by decide) (r_n (x := (7 : Int32)) (l := 7) (h := 7) (by decide) (by decide)) h_v2_l3 c1
      refine tp_b (t_f_X12_gets h_k0 r3 h_k2) (fun o11 h4 => ?_)
      refine tp_b (t_f_X12_gets h_k0 h_k1 h_k2) (fun o17 h5 => ?_)
      refine tp_if (fun c6 => ?_) (fun c6 => ?_)
      · skip
        have r7 : R32 (-2147483648) (2147483646) o17 := r_lt1 (by decide) (r_top _) (r_top _) c6
        have r8 : R32 (-2147483647) (2147483647) o11 := r_lt2 (by decide) (r_top _) (r_top _) c6
        exact tp_s (r_w (l' := 0) (h' := 1) (r_n (x := (0 : Int32)) (l := 0) (h := 0) (by decide) (by decide)) (by decide) (by decide))
      · skip
        refine tp_b (t_f_X12_gets h_k0 r3 h_k1) (fun o26 h9 => ?_)
        refine tp_b (t_f_X12_gets h_k0 h_k2 h_k1) (fun o32 h10 => ?_)
        refine tp_if (fun c11 => ?_) (fun c11 => ?_)
        · skip
          exact ih _ (r_w (l' := 0) (h' := 7) (r_add (l := 1) (h := 7) r3 (r_n (x := (1 : Int32)) (l := 1) (h := 1) (by decide) (by decide)) (by decide) (by decide) (by decide) (by decide)) (by decide) (by decide)) (ms_up (y := (1 : Int32)) r3 (by decide) (by decide) (by decide) hm)
        · skip
          have r12 : R32 (-2147483647) (2147483647) o26 := r_nle1 (by decide) (r_top _) (r_top _) c11
          have r13 : R32 (-2147483648) (2147483646) o32 := r_nle2 (by decide) (r_top _) (r_top _) c11
          exact tp_s (r_w (l' := 0) (h' := 1) (r_n (x := (0 : Int32)) (l := 0) (h := 0) (by decide) (by decide)) (by decide) (by decide))
theorem t_f_X12_isRest {k0 : Int32} {k1 : Int32} {k2 : Int32} (h_k0 : R32 (0) (99) k0) (h_k1 : R32 (0) (6) k1) (h_k2 : R32 (0) (6) k2) : TotP (f_X12_isRest k0 k1 k2) (fun (r : Int32) => R32 (0) (1) r) := by
  unfold f_X12_isRest
  exact t_f_X12_isRest_L2 h_k0 h_k1 h_k2 FU _ (r_w (l' := 0) (h' := 7) (r_n (x := (0 : Int32)) (l := 0) (h := 0) (by decide) (by decide)) (by decide) (by decide)) (fu_up (r_w (l' := 0) (h' := 7) (r_n (x := (0 : Int32)) (l := 0) (h := 0) (by decide) (by decide)) (by decide) (by decide)) (by decide))
theorem t_f_X12_rests_J56 {k26_ : Int32 → Int32 → Option (Int32 × TX12_t)} {v26_l3 : Int32} {v26_l4 : Int32} {v56_t1 : Int32} {N26 : Nat} (hk26 : ∀ (v26_l4 : Int32) (v26_l3 : Int32), R32 (0) (49) v26_l4 → (49 : Int) - v26_l4.toInt < (N26 : Nat) → TotP (k26_ v26_l4 v26_l3) (fun (r : Int32 × TX12_t) => R32 (0) (0) r.2.1 ∧ R32 (0) (2) r.2.2.1 ∧ R32 (-1) (-1) r.2.2.2)) (hm26 : (49 : Int) - v26_l4.toInt < ((N26 + 1 : Nat) : Int)) (h_v26_l4 : R32 (0) (48) v26_l4) (h_v56_t1 : R32 (0) (1) v56_t1) : TotP (f_X12_rests_J56 k26_ v26_l3 v26_l4 v56_t1) (fun (r : Int32 × TX12_t) => R32 (0) (0) r.2.1 ∧ R32 (0) (2) r.2.2.1 ∧ R32 (-1) (-1) r.2.2.2) := by
  unfold f_X12_rests_J56
  exact hk26 _ _ (r_w (l' := 0) (h' := 49) (r_add (l := 1) (h := 49) h_v26_l4 (r_n (x := (1 : Int32)) (l := 1) (h := 1) (by decide) (by decide)) (by decide) (by decide) (by decide) (by decide)) (by decide) (by decide)) (ms_up (y := (1 : Int32)) h_v26_l4 (by decide) (by decide) (by decide) hm26)
theorem t_f_X12_rests_L26 {k1 : Int32} {m_t : TX12_t} (h_k1 : R32 (0) (99) k1) : ∀ (n : Nat) (v26_l4 : Int32) (v26_l3 : Int32), R32 (0) (49) v26_l4 → (49 : Int) - v26_l4.toInt < (n : Int) → TotP (f_X12_rests_L26 k1 m_t n v26_l4 v26_l3) (fun (r : Int32 × TX12_t) => R32 (0) (0) r.2.1 ∧ R32 (0) (2) r.2.2.1 ∧ R32 (-1) (-1) r.2.2.2) := by
  intro n
  induction n with
  | zero =>
    intro v26_l4 v26_l3 h_v26_l4 hm
    exact (ms_0u h_v26_l4 hm).elim
  | succ n ih =>
    intro v26_l4 v26_l3 h_v26_l4 hm
    rw [f_X12_rests_L26]
    refine tp_if (fun c1 => ?_) (fun c1 => ?_)
    · skip
      have r2 : R32 (49) (49) v26_l4 := r_le2 (r_n (x := (49 : Int32)) (l := 49) (h := 49) (by decide) (by decide)) h_v26_l4 c1
      refine tp_e (f_X12_good.eq_1 _ _) ?_
      refine tp_nl ?_
      exact tp_s ⟨(r_n (x := (0 : Int32)) (l := 0) (h := 0) (by decide) (by decide)), (r_w (l' := 0) (h' := 2) (r_n (x := (0 : Int32)) (l := 0) (h := 0) (by decide) (by decide)) (by decide) (by decide)), (r_n (x := (-1 : Int32)) (l := -1) (h := -1) (by decide) (by decide))⟩
    · skip
      have r3 : R32 (0) (48) v26_l4 := r_nle2 (by decide) (r_n (x := (49 : Int32)) (l := 49) (h := 49) (by decide) (by decide)) h_v26_l4 c1
      refine tp_b (t_f_X12_isRest h_k1 (r_div (l := 0) (h := 6) r3 (r_n (x := (7 : Int32)) (l := 7) (h := 7) (by decide) (by decide)) (by decide) (by decide) (by decide) (by decide)) (r_mod (c := 7) (h := 6) (y := (7 : Int32)) r3 (by decide) (by decide) (by decide) (by decide))) (fun o45 h4 => ?_)
      refine tp_if (fun c5 => ?_) (fun c5 => ?_)
      · skip
        have r6 : R32 (0) (0) o45 := r_eq1 (l := 0) (h := 0) (by decide) (by decide) h4 (r_n (x := (0 : Int32)) (l := 0) (h := 0) (by decide) (by decide)) c5
        exact t_f_X12_rests_J56 ih hm r3 (r_w (l' := 0) (h' := 1) (r_n (x := (0 : Int32)) (l := 0) (h := 0) (by decide) (by decide)) (by decide) (by decide))
      · skip
        have r7 : R32 (1) (1) o45 := r_neL (by decide) h4 (r_n (x := (0 : Int32)) (l := 0) (h := 0) (by decide) (by decide)) c5
        exact t_f_X12_rests_J56 ih hm r3 (r_w (l' := 0) (h' := 1) (r_n (x := (1 : Int32)) (l := 1) (h := 1) (by decide) (by decide)) (by decide) (by decide))
theorem t_f_X12_rests {k1 : Int32} {m_t : TX12_t} : TotP (f_X12_rests k1 m_t) (fun (r : Int32 × TX12_t) => R32 (0) (0) r.2.1 ∧ R32 (0) (2) r.2.2.1 ∧ R32 (-1) (-1) r.2.2.2) := by
  unfold f_X12_rests
  refine tp_e (f_X12_refusesStock.eq_1 _) ?_
  refine tp_nn ?_
  refine tp_e (f_X12_in.eq_1 _ _ _) ?_
  refine tp_nif (fun c1 => ?_) (fun c1 => ?_)
  · skip
    have r2 : R32 (-2147483648) (-1) k1 := r_lt1 (by decide) (r_top _) (r_n (x := (0 : Int32)) (l := 0) (h := 0) (by decide) (by decide)) c1
    refine tp_nl ?_
    refine tp_nift (d_eq (r_n (x := (0 : Int32)) (l := 0) (h := 0) (by decide) (by decide)) (r_n (x := (0 : Int32)) (l := 0) (h := 0) (by decide) (by decide))) ?_
    refine tp_nl ?_
    refine tp_iff (d_nle (r_n (x := (2 : Int32)) (l := 2) (h := 2) (by decide) (by decide)) (r_n (x := (0 : Int32)) (l := 0) (h := 0) (by decide) (by decide)) (by decide)) ?_
    refine tp_e (f_X12_refused.eq_1 _ _) ?_
    refine tp_nl ?_
    exact tp_s ⟨(r_n (x := (0 : Int32)) (l := 0) (h := 0) (by decide) (by decide)), (r_w (l' := 0) (h' := 2) (r_n (x := (2 : Int32)) (l := 2) (h := 2) (by decide) (by decide)) (by decide) (by decide)), (r_n (x := (-1 : Int32)) (l := -1) (h := -1) (by decide) (by decide))⟩
  · skip
    have r3 : R32 (0) (2147483647) k1 := r_nlt1 (r_top _) (r_n (x := (0 : Int32)) (l := 0) (h := 0) (by decide) (by decide)) c1
    refine tp_nif (fun c4 => ?_) (fun c4 => ?_)
    · skip
      have r5 : R32 (100) (2147483647) k1 := r_lt2 (by decide) (r_n (x := (99 : Int32)) (l := 99) (h := 99) (by decide) (by decide)) r3 c4
      refine tp_nl ?_
      refine tp_nift (d_eq (r_n (x := (0 : Int32)) (l := 0) (h := 0) (by decide) (by decide)) (r_n (x := (0 : Int32)) (l := 0) (h := 0) (by decide) (by decide))) ?_
      refine tp_nl ?_
      refine tp_iff (d_nle (r_n (x := (2 : Int32)) (l := 2) (h := 2) (by decide) (by decide)) (r_n (x := (0 : Int32)) (l := 0) (h := 0) (by decide) (by decide)) (by decide)) ?_
      refine tp_e (f_X12_refused.eq_1 _ _) ?_
      refine tp_nl ?_
      exact tp_s ⟨(r_n (x := (0 : Int32)) (l := 0) (h := 0) (by decide) (by decide)), (r_w (l' := 0) (h' := 2) (r_n (x := (2 : Int32)) (l := 2) (h := 2) (by decide) (by decide)) (by decide) (by decide)), (r_n (x := (-1 : Int32)) (l := -1) (h := -1) (by decide) (by decide))⟩
    · skip
      have r6 : R32 (0) (99) k1 := r_nlt2 (r_n (x := (99 : Int32)) (l := 99) (h := 99) (by decide) (by decide)) r3 c4
      refine tp_nl ?_
      refine tp_niff (d_ne2 (r_n (x := (1 : Int32)) (l := 1) (h := 1) (by decide) (by decide)) (r_n (x := (0 : Int32)) (l := 0) (h := 0) (by decide) (by decide)) (by decide)) ?_
      refine tp_nl ?_
      refine tp_ift (d_le (r_n (x := (0 : Int32)) (l := 0) (h := 0) (by decide) (by decide)) (r_n (x := (0 : Int32)) (l := 0) (h := 0) (by decide) (by decide)) (by decide)) ?_
      exact t_f_X12_rests_L26 r6 FU _ _ (r_w (l' := 0) (h' := 49) (r_n (x := (0 : Int32)) (l := 0) (h := 0) (by decide) (by decide)) (by decide) (by decide)) (fu_up (r_w (l' := 0) (h' := 49) (r_n (x := (0 : Int32)) (l := 0) (h := 0) (by decide) (by decide)) (by decide) (by decide)) (by decide))
theorem t_f_X12_rest_L23 {k1 : Int32} {m_t : TX12_t} (h_k1 : R32 (0) (99) k1) : ∀ (n : Nat) (v23_l3 : Int32), R32 (0) (49) v23_l3 → (49 : Int) - v23_l3.toInt < (n : Int) → TotP (f_X12_rest_L23 k1 m_t n v23_l3) (fun (r : Int32 × TX12_t) => R32 (-2) (69) r.1 ∧ R32 (0) (0) r.2.1 ∧ R32 (0) (2) r.2.2.1 ∧ R32 (-1) (-1) r.2.2.2) := by
  intro n
  induction n with
  | zero =>
    intro v23_l3 h_v23_l3 hm
    exact (ms_0u h_v23_l3 hm).elim
  | succ n ih =>
    intro v23_l3 h_v23_l3 hm
    rw [f_X12_rest_L23]
    refine tp_if (fun c1 => ?_) (fun c1 => ?_)
    · skip
      have r2 : R32 (49) (49) v23_l3 := r_le2 (r_n (x := (49 : Int32)) (l := 49) (h := 49) (by decide) (by decide)) h_v23_l3 c1
      refine tp_e (f_X12_good.eq_1 _ _) ?_
      refine tp_nl ?_
      exact tp_s ⟨(r_w (l' := -2) (h' := 69) (r_n (x := (-2 : Int32)) (l := -2) (h := -2) (by decide) (by decide)) (by decide) (by decide)), (r_n (x := (0 : Int32)) (l := 0) (h := 0) (by decide) (by decide)), (r_w (l' := 0) (h' := 2) (r_n (x := (0 : Int32)) (l := 0) (h := 0) (by decide) (by decide)) (by decide) (by decide)), (r_n (x := (-1 : Int32)) (l := -1) (h := -1) (by decide) (by decide))⟩
    · skip
      have r3 : R32 (0) (48) v23_l3 := r_nle2 (by decide) (r_n (x := (49 : Int32)) (l := 49) (h := 49) (by decide) (by decide)) h_v23_l3 c1
      refine tp_b (t_f_X12_isRest h_k1 (r_div (l := 0) (h := 6) r3 (r_n (x := (7 : Int32)) (l := 7) (h := 7) (by decide) (by decide)) (by decide) (by decide) (by decide) (by decide)) (r_mod (c := 7) (h := 6) (y := (7 : Int32)) r3 (by decide) (by decide) (by decide) (by decide))) (fun o38 h4 => ?_)
      refine tp_if (fun c5 => ?_) (fun c5 => ?_)
      · skip
        have r6 : R32 (0) (0) o38 := r_eq1 (l := 0) (h := 0) (by decide) (by decide) h4 (r_n (x := (0 : Int32)) (l := 0) (h := 0) (by decide) (by decide)) c5
        exact ih _ (r_w (l' := 0) (h' := 49) (r_add (l := 1) (h := 49) r3 (r_n (x := (1 : Int32)) (l := 1) (h := 1) (by decide) (by decide)) (by decide) (by decide) (by decide) (by decide)) (by decide) (by decide)) (ms_up (y := (1 : Int32)) r3 (by decide) (by decide) (by decide) hm)
      · skip
        have r7 : R32 (1) (1) o38 := r_neL (by decide) h4 (r_n (x := (0 : Int32)) (l := 0) (h := 0) (by decide) (by decide)) c5
        refine tp_n (P := fun z => R32 (0) (66) z) (r_add (l := 0) (h := 66) (r_mul (l := 0) (h := 60) (r_n (x := (10 : Int32)) (l := 10) (h := 10) (by decide) (by decide)) (r_div (l := 0) (h := 6) r3 (r_n (x := (7 : Int32)) (l := 7) (h := 7) (by decide) (by decide)) (by decide) (by decide) (by decide) (by decide)) (by decide) (by decide) (by decide) (by decide) (by decide)) (r_mod (c := 7) (h := 6) (y := (7 : Int32)) r3 (by decide) (by decide) (by decide) (by decide)) (by decide) (by decide) (by decide) (by decide)) (fun z56 h8 => ?_)
        refine tp_e (f_X12_good.eq_1 _ _) ?_
        refine tp_nl ?_
        exact tp_s ⟨(r_w (l' := -2) (h' := 69) h8 (by decide) (by decide)), (r_n (x := (0 : Int32)) (l := 0) (h := 0) (by decide) (by decide)), (r_w (l' := 0) (h' := 2) (r_n (x := (0 : Int32)) (l := 0) (h := 0) (by decide) (by decide)) (by decide) (by decide)), (r_n (x := (-1 : Int32)) (l := -1) (h := -1) (by decide) (by decide))⟩
theorem t_f_X12_rest {k1 : Int32} {m_t : TX12_t} : TotP (f_X12_rest k1 m_t) (fun (r : Int32 × TX12_t) => R32 (-2) (69) r.1 ∧ R32 (0) (0) r.2.1 ∧ R32 (0) (2) r.2.2.1 ∧ R32 (-1) (-1) r.2.2.2) := by
  unfold f_X12_rest
  refine tp_e (f_X12_refusesStock.eq_1 _) ?_
  refine tp_nn ?_
  refine tp_e (f_X12_in.eq_1 _ _ _) ?_
  refine tp_nif (fun c1 => ?_) (fun c1 => ?_)
  · skip
    have r2 : R32 (-2147483648) (-1) k1 := r_lt1 (by decide) (r_top _) (r_n (x := (0 : Int32)) (l := 0) (h := 0) (by decide) (by decide)) c1
    refine tp_nl ?_
    refine tp_nift (d_eq (r_n (x := (0 : Int32)) (l := 0) (h := 0) (by decide) (by decide)) (r_n (x := (0 : Int32)) (l := 0) (h := 0) (by decide) (by decide))) ?_
    refine tp_nl ?_
    refine tp_iff (d_nle (r_n (x := (2 : Int32)) (l := 2) (h := 2) (by decide) (by decide)) (r_n (x := (0 : Int32)) (l := 0) (h := 0) (by decide) (by decide)) (by decide)) ?_
    refine tp_e (f_X12_refused.eq_1 _ _) ?_
    refine tp_nl ?_
    exact tp_s ⟨(r_w (l' := -2) (h' := 69) (r_n (x := (-1 : Int32)) (l := -1) (h := -1) (by decide) (by decide)) (by decide) (by decide)), (r_n (x := (0 : Int32)) (l := 0) (h := 0) (by decide) (by decide)), (r_w (l' := 0) (h' := 2) (r_n (x := (2 : Int32)) (l := 2) (h := 2) (by decide) (by decide)) (by decide) (by decide)), (r_n (x := (-1 : Int32)) (l := -1) (h := -1) (by decide) (by decide))⟩
  · skip
    have r3 : R32 (0) (2147483647) k1 := r_nlt1 (r_top _) (r_n (x := (0 : Int32)) (l := 0) (h := 0) (by decide) (by decide)) c1
    refine tp_nif (fun c4 => ?_) (fun c4 => ?_)
    · skip
      have r5 : R32 (100) (2147483647) k1 := r_lt2 (by decide) (r_n (x := (99 : Int32)) (l := 99) (h := 99) (by decide) (by decide)) r3 c4
      refine tp_nl ?_
      refine tp_nift (d_eq (r_n (x := (0 : Int32)) (l := 0) (h := 0) (by decide) (by decide)) (r_n (x := (0 : Int32)) (l := 0) (h := 0) (by decide) (by decide))) ?_
      refine tp_nl ?_
      refine tp_iff (d_nle (r_n (x := (2 : Int32)) (l := 2) (h := 2) (by decide) (by decide)) (r_n (x := (0 : Int32)) (l := 0) (h := 0) (by decide) (by decide)) (by decide)) ?_
      refine tp_e (f_X12_refused.eq_1 _ _) ?_
      refine tp_nl ?_
      exact tp_s ⟨(r_w (l' := -2) (h' := 69) (r_n (x := (-1 : Int32)) (l := -1) (h := -1) (by decide) (by decide)) (by decide) (by decide)), (r_n (x := (0 : Int32)) (l := 0) (h := 0) (by decide) (by decide)), (r_w (l' := 0) (h' := 2) (r_n (x := (2 : Int32)) (l := 2) (h := 2) (by decide) (by decide)) (by decide) (by decide)), (r_n (x := (-1 : Int32)) (l := -1) (h := -1) (by decide) (by decide))⟩
    · skip
      have r6 : R32 (0) (99) k1 := r_nlt2 (r_n (x := (99 : Int32)) (l := 99) (h := 99) (by decide) (by decide)) r3 c4
      refine tp_nl ?_
      refine tp_niff (d_ne2 (r_n (x := (1 : Int32)) (l := 1) (h := 1) (by decide) (by decide)) (r_n (x := (0 : Int32)) (l := 0) (h := 0) (by decide) (by decide)) (by decide)) ?_
      refine tp_nl ?_
      refine tp_ift (d_le (r_n (x := (0 : Int32)) (l := 0) (h := 0) (by decide) (by decide)) (r_n (x := (0 : Int32)) (l := 0) (h := 0) (by decide) (by decide)) (by decide)) ?_
      exact t_f_X12_rest_L23 r6 FU _ (r_w (l' := 0) (h' := 49) (r_n (x := (0 : Int32)) (l := 0) (h := 0) (by decide) (by decide)) (by decide) (by decide)) (fu_up (r_w (l' := 0) (h' := 49) (r_n (x := (0 : Int32)) (l := 0) (h := 0) (by decide) (by decide)) (by decide) (by decide)) (by decide))
theorem t_f_X12_tries_L2 {m_v : TX12_v} : ∀ (n : Nat) (v2_l1 : Int32) (v2_m_w : TX12_w), R32 (0) (26) v2_l1 → (26 : Int) - v2_l1.toInt < (n : Int) → TotP (f_X12_tries_L2 m_v n v2_l1 v2_m_w) (fun (r : TX12_w) => True) := by
  intro n
  induction n with
  | zero =>
    intro v2_l1 v2_m_w h_v2_l1 hm
    exact (ms_0u h_v2_l1 hm).elim
  | succ n ih =>
    intro v2_l1 v2_m_w h_v2_l1 hm
    rw [f_X12_tries_L2]
    refine tp_if (fun c1 => ?_) (fun c1 => ?_)
    · skip
      have r2 : R32 (26) (26) v2_l1 := r_le2 (r_n (x := (26 : Int32)) (l := 26) (h := 26) (by decide) (by decide)) h_v2_l1 c1
      exact tp_s trivial
    · skip
      have r3 : R32 (0) (25) v2_l1 := r_nle2 (by decide) (r_n (x := (26 : Int32)) (l := 26) (h := 26) (by decide) (by decide)) h_v2_l1 c1
      refine tp_g r3 (by decide) (by decide) ?_
      refine tp_g r3 (by decide) (by decide) ?_
      exact ih _ _ (r_w (l' := 0) (h' := 26) (r_add (l := 1) (h := 26) r3 (r_n (x := (1 : Int32)) (l := 1) (h := 1) (by decide) (by decide)) (by decide) (by decide) (by decide) (by decide)) (by decide) (by decide)) (ms_up (y := (1 : Int32)) r3 (by decide) (by decide) (by decide) hm)
theorem t_f_X12_tries {m_v : TX12_v} {m_w : TX12_w} : TotP (f_X12_tries m_v m_w) (fun (r : TX12_w) => True) := by
  unfold f_X12_tries
  exact t_f_X12_tries_L2  FU _ _ (r_w (l' := 0) (h' := 26) (r_n (x := (0 : Int32)) (l := 0) (h := 0) (by decide) (by decide)) (by decide) (by decide)) (fu_up (r_w (l' := 0) (h' := 26) (r_n (x := (0 : Int32)) (l := 0) (h := 0) (by decide) (by decide)) (by decide) (by decide)) (by decide))
theorem t_f_X12_isTangled_x_J60 {k2_ : Int32 → Option Int32} {v2_l3 : Int32} {N2 : Nat} (hk2 : ∀ (v2_l3 : Int32), R32 (0) (5) v2_l3 → (5 : Int) - v2_l3.toInt < (N2 : Nat) → TotP (k2_ v2_l3) (fun (r : Int32) => R32 (0) (1) r)) (hm2 : (5 : Int) - v2_l3.toInt < ((N2 + 1 : Nat) : Int)) (h_v2_l3 : R32 (0) (4) v2_l3) : TotP (f_X12_isTangled_x_J60 k2_ v2_l3) (fun (r : Int32) => R32 (0) (1) r) := by
  unfold f_X12_isTangled_x_J60
  exact hk2 _ (r_w (l' := 0) (h' := 5) (r_add (l := 1) (h := 5) h_v2_l3 (r_n (x := (1 : Int32)) (l := 1) (h := 1) (by decide) (by decide)) (by decide) (by decide) (by decide) (by decide)) (by decide) (by decide)) (ms_up (y := (1 : Int32)) h_v2_l3 (by decide) (by decide) (by decide) hm2)
theorem t_f_X12_isTangled_x_L2 {k2 : Int32} {m_w : TX12_w} {q_q : TX11_q} (h_k2 : R32 (0) (4) k2) (h_q_q_1 : R32 (2) (8) q_q.1) (h_q_q_2_1 : R32 (1) (9) q_q.2.1) (h_q_q_2_2_2_2_1 : R32 (1) (4) q_q.2.2.2.2.1) (h_q_q_2_2_2_2_2_1 : R32 (1) (5) q_q.2.2.2.2.2.1) (h_q_q_2_2_2_2_2_2_1 : R32 (0) (6) q_q.2.2.2.2.2.2.1) (h_q_q_2_2_2_2_2_2_2_1 : R32 (0) (6) q_q.2.2.2.2.2.2.2.1) : ∀ (n : Nat) (v2_l3 : Int32), R32 (0) (5) v2_l3 → (5 : Int) - v2_l3.toInt < (n : Int) → TotP (f_X12_isTangled_x_L2 k2 m_w q_q n v2_l3) (fun (r : Int32) => R32 (0) (1) r) := by
  intro n
  induction n with
  | zero =>
    intro v2_l3 h_v2_l3 hm
    exact (ms_0u h_v2_l3 hm).elim
  | succ n ih =>
    intro v2_l3 h_v2_l3 hm
    rw [f_X12_isTangled_x_L2]
    refine tp_if (fun c1 => ?_) (fun c1 => ?_)
    · skip
      have r2 : R32 (1) (5) v2_l3 := r_le2 h_q_q_2_2_2_2_2_1 h_v2_l3 c1
      exact tp_s (r_w (l' := 0) (h' := 1) (r_n (x := (0 : Int32)) (l := 0) (h := 0) (by decide) (by decide)) (by decide) (by decide))
    · skip
      have r3 : R32 (0) (4) v2_l3 := r_nle2 (by decide) h_q_q_2_2_2_2_2_1 h_v2_l3 c1
      refine tp_if (fun c4 => ?_) (fun c4 => ?_)
      · skip
        exact t_f_X12_isTangled_x_J60 ih hm r3
      · skip
        refine tp_g (r_add (l := 18) (h := 22) (r_n (x := (18 : Int32)) (l := 18) (h := 18) (by decide) (by decide)) r3 (by decide) (by decide) (by decide) (by decide)) (by decide) (by decide) ?_
        refine tp_if (fun c5 => ?_) (fun c5 => ?_)
        · skip
          have r6 : R32 (-2) (-2) (m_w (((18 : Int32) + v2_l3)).toNatClampNeg) := r_eq1 (l := -2) (h := -2) (by decide) (by decide) (r_top _) (r_n (x := (-2 : Int32)) (l := -2) (h := -2) (by decide) (by decide)) c5
          exact t_f_X12_isTangled_x_J60 ih hm r3
        · skip
          refine tp_g (r_add (l := 18) (h := 22) (r_n (x := (18 : Int32)) (l := 18) (h := 18) (by decide) (by decide)) h_k2 (by decide) (by decide) (by decide) (by decide)) (by decide) (by decide) ?_
          refine tp_b (t_f_X12_spotOf h_q_q_1 h_q_q_2_1 h_q_q_2_2_2_2_1 (r_w (l' := 0) (h' := 5) h_q_q_2_2_2_2_2_1 (by decide) (by decide)) h_q_q_2_2_2_2_2_2_1 h_q_q_2_2_2_2_2_2_2_1) (fun o38 h7 => ?_)
          refine tp_g (r_add (l := 18) (h := 22) (r_n (x := (18 : Int32)) (l := 18) (h := 18) (by decide) (by decide)) r3 (by decide) (by decide) (by decide) (by decide)) (by decide) (by decide) ?_
          refine tp_b (t_f_X12_spotOf h_q_q_1 h_q_q_2_1 h_q_q_2_2_2_2_1 (r_w (l' := 0) (h' := 5) h_q_q_2_2_2_2_2_1 (by decide) (by decide)) h_q_q_2_2_2_2_2_2_1 h_q_q_2_2_2_2_2_2_2_1) (fun o49 h8 => ?_)
          refine tp_b (t_f_X12_areTangled h_k2 r3 h_q_q_1 h_q_q_2_1 h_q_q_2_2_2_2_1 (r_w (l' := 0) (h' := 5) h_q_q_2_2_2_2_2_1 (by decide) (by decide)) h_q_q_2_2_2_2_2_2_1 h_q_q_2_2_2_2_2_2_2_1) (fun o52 h9 => ?_)
          refine tp_if (fun c10 => ?_) (fun c10 => ?_)
          · skip
            have r11 : R32 (0) (0) o52 := r_eq1 (l := 0) (h := 0) (by decide) (by decide) h9 (r_n (x := (0 : Int32)) (l := 0) (h := 0) (by decide) (by decide)) c10
            exact t_f_X12_isTangled_x_J60 ih hm r3
          · skip
            have r12 : R32 (1) (1) o52 := r_neL (by decide) h9 (r_n (x := (0 : Int32)) (l := 0) (h := 0) (by decide) (by decide)) c10
            exact tp_s (r_w (l' := 0) (h' := 1) (r_n (x := (1 : Int32)) (l := 1) (h := 1) (by decide) (by decide)) (by decide) (by decide))
theorem t_f_X12_isTangled_x {k2 : Int32} {m_w : TX12_w} {q_q : TX11_q} (h_k2 : R32 (0) (4) k2) (h_q_q_1 : R32 (2) (8) q_q.1) (h_q_q_2_1 : R32 (1) (9) q_q.2.1) (h_q_q_2_2_2_2_1 : R32 (1) (4) q_q.2.2.2.2.1) (h_q_q_2_2_2_2_2_1 : R32 (1) (5) q_q.2.2.2.2.2.1) (h_q_q_2_2_2_2_2_2_1 : R32 (0) (6) q_q.2.2.2.2.2.2.1) (h_q_q_2_2_2_2_2_2_2_1 : R32 (0) (6) q_q.2.2.2.2.2.2.2.1) : TotP (f_X12_isTangled_x k2 m_w q_q) (fun (r : Int32) => R32 (0) (1) r) := by
  unfold f_X12_isTangled_x
  exact t_f_X12_isTangled_x_L2 h_k2 h_q_q_1 h_q_q_2_1 h_q_q_2_2_2_2_1 h_q_q_2_2_2_2_2_1 h_q_q_2_2_2_2_2_2_1 h_q_q_2_2_2_2_2_2_2_1 FU _ (r_w (l' := 0) (h' := 5) (r_n (x := (0 : Int32)) (l := 0) (h := 0) (by decide) (by decide)) (by decide) (by decide)) (fu_up (r_w (l' := 0) (h' := 5) (r_n (x := (0 : Int32)) (l := 0) (h := 0) (by decide) (by decide)) (by decide) (by decide)) (by decide))
theorem t_f_X12_taker_x_J64 {k2_ : Int32 → TX12_w → Option (Int32 × TX12_w)} {v2_l3 : Int32} {v64_m_w : TX12_w} {N2 : Nat} (hk2 : ∀ (v2_l3 : Int32) (v2_m_w : TX12_w), R32 (0) (6) v2_l3 → (6 : Int) - v2_l3.toInt < (N2 : Nat) → TotP (k2_ v2_l3 v2_m_w) (fun (r : Int32 × TX12_w) => r.1 = (-2 : Int32) ∨ R32 (0) (5) r.1)) (hm2 : (6 : Int) - v2_l3.toInt < ((N2 + 1 : Nat) : Int)) (h_v2_l3 : R32 (0) (5) v2_l3) : TotP (f_X12_taker_x_J64 k2_ v2_l3 v64_m_w) (fun (r : Int32 × TX12_w) => r.1 = (-2 : Int32) ∨ R32 (0) (5) r.1) := by
  unfold f_X12_taker_x_J64
  exact hk2 _ _ (r_w (l' := 0) (h' := 6) (r_add (l := 1) (h := 6) h_v2_l3 (r_n (x := (1 : Int32)) (l := 1) (h := 1) (by decide) (by decide)) (by decide) (by decide) (by decide) (by decide)) (by decide) (by decide)) (ms_up (y := (1 : Int32)) h_v2_l3 (by decide) (by decide) (by decide) hm2)
theorem t_f_X12_taker_x_L2 {k2 : Int32} {q_q : TX11_q} (h_q_q_1 : R32 (2) (8) q_q.1) (h_q_q_2_1 : R32 (1) (9) q_q.2.1) (h_q_q_2_2_2_2_1 : R32 (1) (4) q_q.2.2.2.2.1) (h_q_q_2_2_2_2_2_1 : R32 (1) (5) q_q.2.2.2.2.2.1) (h_q_q_2_2_2_2_2_2_1 : R32 (0) (6) q_q.2.2.2.2.2.2.1) (h_q_q_2_2_2_2_2_2_2_1 : R32 (0) (6) q_q.2.2.2.2.2.2.2.1) : ∀ (n : Nat) (v2_l3 : Int32) (v2_m_w : TX12_w), R32 (0) (6) v2_l3 → (6 : Int) - v2_l3.toInt < (n : Int) → TotP (f_X12_taker_x_L2 k2 q_q n v2_l3 v2_m_w) (fun (r : Int32 × TX12_w) => r.1 = (-2 : Int32) ∨ R32 (0) (5) r.1) := by
  intro n
  induction n with
  | zero =>
    intro v2_l3 v2_m_w h_v2_l3 hm
    exact (ms_0u h_v2_l3 hm).elim
  | succ n ih =>
    intro v2_l3 v2_m_w h_v2_l3 hm
    rw [f_X12_taker_x_L2]
    refine tp_if (fun c1 => ?_) (fun c1 => ?_)
    · skip
      exact tp_s (Or.inl (by first | rfl | decide))
    · skip
      have r2 : R32 (1) (6) q_q.2.2.2.2.2.2.1 := r_nle1 (by decide) h_q_q_2_2_2_2_2_2_1 h_v2_l3 c1
      have r3 : R32 (0) (5) v2_l3 := r_nle2 (by decide) h_q_q_2_2_2_2_2_2_1 h_v2_l3 c1
      refine tp_g (r_add (l := 0) (h := 5) (r_n (x := (0 : Int32)) (l := 0) (h := 0) (by decide) (by decide)) r3 (by decide) (by decide) (by decide) (by decide)) (by decide) (by decide) ?_
      refine tp_if (fun c4 => ?_) (fun c4 => ?_)
      · skip
        have r5 : R32 (0) (0) (v2_m_w (((0 : Int32) + v2_l3)).toNatClampNeg) := r_eq1 (l := 0) (h := 0) (by decide) (by decide) (r_top _) (r_n (x := (0 : Int32)) (l := 0) (h := 0) (by decide) (by decide)) c4
        refine tp_n0 (fun z35 => ?_)
        refine tp_n0 (fun z43 => ?_)
        refine tp_n0 (fun z49 => ?_)
        refine tp_b (t_f_X12_wishOf r3 h_q_q_1 h_q_q_2_1 h_q_q_2_2_2_2_1 (r_w (l' := 0) (h' := 5) h_q_q_2_2_2_2_2_1 (by decide) (by decide)) r2 h_q_q_2_2_2_2_2_2_2_1) (fun o56 h6 => ?_)
        refine tp_if (fun c7 => ?_) (fun c7 => ?_)
        · skip
          have r8 : R32 (0) (2147483647) (z49 - ((z49 / (100 : Int32)) * (100 : Int32))) := r_le2 h6 (r_top _) c7
          exact t_f_X12_taker_x_J64 ih hm r3
        · skip
          have r9 : R32 (-2147483648) (99) (z49 - ((z49 / (100 : Int32)) * (100 : Int32))) := r_nle2 (by decide) h6 (r_top _) c7
          exact tp_s (Or.inr r3)
      · skip
        exact t_f_X12_taker_x_J64 ih hm r3
theorem t_f_X12_taker_x {k2 : Int32} {m_w : TX12_w} {q_q : TX11_q} (h_q_q_1 : R32 (2) (8) q_q.1) (h_q_q_2_1 : R32 (1) (9) q_q.2.1) (h_q_q_2_2_2_2_1 : R32 (1) (4) q_q.2.2.2.2.1) (h_q_q_2_2_2_2_2_1 : R32 (1) (5) q_q.2.2.2.2.2.1) (h_q_q_2_2_2_2_2_2_1 : R32 (0) (6) q_q.2.2.2.2.2.2.1) (h_q_q_2_2_2_2_2_2_2_1 : R32 (0) (6) q_q.2.2.2.2.2.2.2.1) : TotP (f_X12_taker_x k2 m_w q_q) (fun (r : Int32 × TX12_w) => r.1 = (-2 : Int32) ∨ R32 (0) (5) r.1) := by
  unfold f_X12_taker_x
  exact t_f_X12_taker_x_L2 h_q_q_1 h_q_q_2_1 h_q_q_2_2_2_2_1 h_q_q_2_2_2_2_2_1 h_q_q_2_2_2_2_2_2_1 h_q_q_2_2_2_2_2_2_2_1 FU _ _ (r_w (l' := 0) (h' := 6) (r_n (x := (0 : Int32)) (l := 0) (h := 0) (by decide) (by decide)) (by decide) (by decide)) (fu_up (r_w (l' := 0) (h' := 6) (r_n (x := (0 : Int32)) (l := 0) (h := 0) (by decide) (by decide)) (by decide) (by decide)) (by decide))
theorem t_f_X12_goesBy_x_J143 {k4_ : Int32 → Int32 → TX12_w → TX12_c → Option (Int32 × TX12_w × TX12_c)} {v4_l3 : Int32} {v143_l2 : Int32} {v143_m_w : TX12_w} {v143_m_c : TX12_c} {N4 : Nat} (hk4 : ∀ (v4_l3 : Int32) (v4_l2 : Int32) (v4_m_w : TX12_w) (v4_m_c : TX12_c), R32 (0) (5) v4_l3 → R32 (0) (63) v4_l2 → R32 (0) (60) v4_m_c.2.2 → (5 : Int) - v4_l3.toInt < (N4 : Nat) → TotP (k4_ v4_l3 v4_l2 v4_m_w v4_m_c) (fun (r : Int32 × TX12_w × TX12_c) => R32 (0) (63) r.1 ∧ R32 (0) (60) r.2.2.2.2)) (hm4 : (5 : Int) - v4_l3.toInt < ((N4 + 1 : Nat) : Int)) (h_v4_l3 : R32 (0) (4) v4_l3) (h_v143_l2 : R32 (0) (63) v143_l2) (h_v143_m_c_2_2 : R32 (0) (60) v143_m_c.2.2) : TotP (f_X12_goesBy_x_J143 k4_ v4_l3 v143_l2 v143_m_w v143_m_c) (fun (r : Int32 × TX12_w × TX12_c) => R32 (0) (63) r.1 ∧ R32 (0) (60) r.2.2.2.2) := by
  unfold f_X12_goesBy_x_J143
  exact hk4 _ _ _ _ (r_w (l' := 0) (h' := 5) (r_add (l := 1) (h := 5) h_v4_l3 (r_n (x := (1 : Int32)) (l := 1) (h := 1) (by decide) (by decide)) (by decide) (by decide) (by decide) (by decide)) (by decide) (by decide)) h_v143_l2 h_v143_m_c_2_2 (ms_up (y := (1 : Int32)) h_v4_l3 (by decide) (by decide) (by decide) hm4)
theorem t_f_X12_goesBy_x_J149 {v4_l2 : Int32} {v4_m_c : TX12_c} {v4_m_w : TX12_w} (h_v4_l2 : R32 (0) (63) v4_l2) (h_v4_m_c_2_2 : R32 (0) (60) v4_m_c.2.2) : TotP (f_X12_goesBy_x_J149 v4_l2 v4_m_c v4_m_w) (fun (r : Int32 × TX12_w × TX12_c) => R32 (0) (63) r.1 ∧ R32 (0) (60) r.2.2.2.2) := by
  unfold f_X12_goesBy_x_J149
  exact tp_s ⟨h_v4_l2, h_v4_m_c_2_2⟩
theorem t_f_X12_goesBy_x_L4 {q_q : TX11_q} (h_q_q_1 : R32 (2) (8) q_q.1) (h_q_q_2_1 : R32 (1) (9) q_q.2.1) (h_q_q_2_2_2_2_1 : R32 (1) (4) q_q.2.2.2.2.1) (h_q_q_2_2_2_2_2_1 : R32 (0) (5) q_q.2.2.2.2.2.1) (h_q_q_2_2_2_2_2_2_1 : R32 (0) (6) q_q.2.2.2.2.2.2.1) (h_q_q_2_2_2_2_2_2_2_1 : R32 (0) (6) q_q.2.2.2.2.2.2.2.1) : ∀ (n : Nat) (v4_l3 : Int32) (v4_l2 : Int32) (v4_m_w : TX12_w) (v4_m_c : TX12_c), R32 (0) (5) v4_l3 → R32 (0) (63) v4_l2 → R32 (0) (60) v4_m_c.2.2 → (5 : Int) - v4_l3.toInt < (n : Int) → TotP (f_X12_goesBy_x_L4 q_q n v4_l3 v4_l2 v4_m_w v4_m_c) (fun (r : Int32 × TX12_w × TX12_c) => R32 (0) (63) r.1 ∧ R32 (0) (60) r.2.2.2.2) := by
  intro n
  induction n with
  | zero =>
    intro v4_l3 v4_l2 v4_m_w v4_m_c h_v4_l3 h_v4_l2 h_v4_m_c_2_2 hm
    exact (ms_0u h_v4_l3 hm).elim
  | succ n ih =>
    intro v4_l3 v4_l2 v4_m_w v4_m_c h_v4_l3 h_v4_l2 h_v4_m_c_2_2 hm
    rw [f_X12_goesBy_x_L4]
    refine tp_if (fun c1 => ?_) (fun c1 => ?_)
    · skip
      exact t_f_X12_goesBy_x_J149 h_v4_l2 h_v4_m_c_2_2
    · skip
      have r2 : R32 (1) (5) q_q.2.2.2.2.2.1 := r_nle1 (by decide) h_q_q_2_2_2_2_2_1 h_v4_l3 c1
      have r3 : R32 (0) (4) v4_l3 := r_nle2 (by decide) h_q_q_2_2_2_2_2_1 h_v4_l3 c1
      refine tp_e (f_X11_isClose.eq_1 _ _) ?_
      refine tp_nif (fun c4 => ?_) (fun c4 => ?_)
      · skip
        have r5 : R32 (-2147483648) (2147483646) (v4_m_w ((23 : Int32)).toNatClampNeg) := r_lt1 (by decide) (r_top _) (r_top _) c4
        have r6 : R32 (-2147483647) (2147483647) q_q.2.2.1 := r_lt2 (by decide) (r_top _) (r_top _) c4
        refine tp_nl ?_
        refine tp_ift (d_eq (r_n (x := (0 : Int32)) (l := 0) (h := 0) (by decide) (by decide)) (r_n (x := (0 : Int32)) (l := 0) (h := 0) (by decide) (by decide))) ?_
        refine tp_g (r_add (l := 18) (h := 22) (r_n (x := (18 : Int32)) (l := 18) (h := 18) (by decide) (by decide)) r3 (by decide) (by decide) (by decide) (by decide)) (by decide) (by decide) ?_
        refine tp_if (fun c7 => ?_) (fun c7 => ?_)
        · skip
          have r8 : R32 (-2) (-2) (v4_m_w (((18 : Int32) + v4_l3)).toNatClampNeg) := r_eq1 (l := -2) (h := -2) (by decide) (by decide) (r_top _) (r_n (x := (-2 : Int32)) (l := -2) (h := -2) (by decide) (by decide)) c7
          exact t_f_X12_goesBy_x_J143 ih hm r3 h_v4_l2 h_v4_m_c_2_2
        · skip
          refine tp_b (t_f_X12_isTangled_x r3 h_q_q_1 h_q_q_2_1 h_q_q_2_2_2_2_1 r2 h_q_q_2_2_2_2_2_2_1 h_q_q_2_2_2_2_2_2_2_1) (fun o43 h9 => ?_)
          refine tp_if (fun c10 => ?_) (fun c10 => ?_)
          · skip
            have r11 : R32 (0) (0) o43 := r_eq1 (l := 0) (h := 0) (by decide) (by decide) h9 (r_n (x := (0 : Int32)) (l := 0) (h := 0) (by decide) (by decide)) c10
            refine tp_g (r_add (l := 18) (h := 22) (r_n (x := (18 : Int32)) (l := 18) (h := 18) (by decide) (by decide)) r3 (by decide) (by decide) (by decide) (by decide)) (by decide) (by decide) ?_
            refine tp_b (t_f_X12_taker_x h_q_q_1 h_q_q_2_1 h_q_q_2_2_2_2_1 r2 h_q_q_2_2_2_2_2_2_1 h_q_q_2_2_2_2_2_2_2_1) (fun o60 h12 => ?_)
            refine tp_if (fun c13 => ?_) (fun c13 => ?_)
            · skip
              have r14 : R32 (-2) (-2) o60.1 := r_eq1 (l := -2) (h := -2) (by decide) (by decide) (r_hole (l' := -2) (h' := 5) h12 (by decide) (by decide)) (r_n (x := (-2 : Int32)) (l := -2) (h := -2) (by decide) (by decide)) c13
              exact t_f_X12_goesBy_x_J143 ih hm r3 h_v4_l2 h_v4_m_c_2_2
            · skip
              have r15 : R32 (-1) (5) o60.1 := r_neL (by decide) (r_hole (l' := -2) (h' := 5) h12 (by decide) (by decide)) (r_n (x := (-2 : Int32)) (l := -2) (h := -2) (by decide) (by decide)) c13
              have r16 : R32 (0) (5) o60.1 := h12.resolve_left c13
              refine tp_g (r_add (l := 18) (h := 22) (r_n (x := (18 : Int32)) (l := 18) (h := 18) (by decide) (by decide)) r3 (by decide) (by decide) (by decide) (by decide)) (by decide) (by decide) ?_
              refine tp_g r16 (by decide) (by decide) ?_
              refine tp_if (fun c17 => ?_) (fun c17 => ?_)
              · skip
                have r18 : R32 (2) (2) (q_q.2.2.2.2.2.2.2.2.2.2.2.1 (o60.1).toNatClampNeg) := r_eq1 (l := 2) (h := 2) (by decide) (by decide) (r_top _) (r_n (x := (2 : Int32)) (l := 2) (h := 2) (by decide) (by decide)) c17
                exact t_f_X12_goesBy_x_J143 ih hm r3 h_v4_l2 h_v4_m_c_2_2
              · skip
                refine tp_g (r_add (l := 0) (h := 5) (r_n (x := (0 : Int32)) (l := 0) (h := 0) (by decide) (by decide)) r16 (by decide) (by decide) (by decide) (by decide)) (by decide) (by decide) ?_
                refine tp_n0 (fun z126 => ?_)
                refine tp_g (r_add (l := 6) (h := 11) (r_n (x := (6 : Int32)) (l := 6) (h := 6) (by decide) (by decide)) r16 (by decide) (by decide) (by decide) (by decide)) (by decide) (by decide) ?_
                refine tp_g (r_add (l := 12) (h := 17) (r_n (x := (12 : Int32)) (l := 12) (h := 12) (by decide) (by decide)) r16 (by decide) (by decide) (by decide) (by decide)) (by decide) (by decide) ?_
                exact t_f_X12_goesBy_x_J143 ih hm r3 (r_or 6 63 h_v4_l2 (r_shl 0 5 (l := 1) (h := 32) r16 (by decide) (by decide) (by decide)) (by decide) (by decide) (by decide) (by decide) (by decide)) h_v4_m_c_2_2
          · skip
            have r19 : R32 (1) (1) o43 := r_neL (by decide) h9 (r_n (x := (0 : Int32)) (l := 0) (h := 0) (by decide) (by decide)) c10
            exact t_f_X12_goesBy_x_J143 ih hm r3 h_v4_l2 h_v4_m_c_2_2
      · skip
        refine tp_nif (fun c20 => ?_) (fun c20 => ?_)
        · skip
          have r21 : R32 (-2147483648) (2147483646) q_q.2.2.2.1 := r_lt1 (by decide) (r_top _) (r_top _) c20
          have r22 : R32 (-2147483647) (2147483647) (v4_m_w ((23 : Int32)).toNatClampNeg) := r_lt2 (by decide) (r_top _) (r_top _) c20
          refine tp_nl ?_
          refine tp_ift (d_eq (r_n (x := (0 : Int32)) (l := 0) (h := 0) (by decide) (by decide)) (r_n (x := (0 : Int32)) (l := 0) (h := 0) (by decide) (by decide))) ?_
          refine tp_g (r_add (l := 18) (h := 22) (r_n (x := (18 : Int32)) (l := 18) (h := 18) (by decide) (by decide)) r3 (by decide) (by decide) (by decide) (by decide)) (by decide) (by decide) ?_
          refine tp_if (fun c23 => ?_) (fun c23 => ?_)
          · skip
            have r24 : R32 (-2) (-2) (v4_m_w (((18 : Int32) + v4_l3)).toNatClampNeg) := r_eq1 (l := -2) (h := -2) (by decide) (by decide) (r_top _) (r_n (x := (-2 : Int32)) (l := -2) (h := -2) (by decide) (by decide)) c23
            exact t_f_X12_goesBy_x_J143 ih hm r3 h_v4_l2 h_v4_m_c_2_2
          · skip
            refine tp_b (t_f_X12_isTangled_x r3 h_q_q_1 h_q_q_2_1 h_q_q_2_2_2_2_1 r2 h_q_q_2_2_2_2_2_2_1 h_q_q_2_2_2_2_2_2_2_1) (fun o43 h25 => ?_)
            refine tp_if (fun c26 => ?_) (fun c26 => ?_)
            · skip
              have r27 : R32 (0) (0) o43 := r_eq1 (l := 0) (h := 0) (by decide) (by decide) h25 (r_n (x := (0 : Int32)) (l := 0) (h := 0) (by decide) (by decide)) c26
              refine tp_g (r_add (l := 18) (h := 22) (r_n (x := (18 : Int32)) (l := 18) (h := 18) (by decide) (by decide)) r3 (by decide) (by decide) (by decide) (by decide)) (by decide) (by decide) ?_
              refine tp_b (t_f_X12_taker_x h_q_q_1 h_q_q_2_1 h_q_q_2_2_2_2_1 r2 h_q_q_2_2_2_2_2_2_1 h_q_q_2_2_2_2_2_2_2_1) (fun o60 h28 => ?_)
              refine tp_if (fun c29 => ?_) (fun c29 => ?_)
              · skip
                have r30 : R32 (-2) (-2) o60.1 := r_eq1 (l := -2) (h := -2) (by decide) (by decide) (r_hole (l' := -2) (h' := 5) h28 (by decide) (by decide)) (r_n (x := (-2 : Int32)) (l := -2) (h := -2) (by decide) (by decide)) c29
                exact t_f_X12_goesBy_x_J143 ih hm r3 h_v4_l2 h_v4_m_c_2_2
              · skip
                have r31 : R32 (-1) (5) o60.1 := r_neL (by decide) (r_hole (l' := -2) (h' := 5) h28 (by decide) (by decide)) (r_n (x := (-2 : Int32)) (l := -2) (h := -2) (by decide) (by decide)) c29
                have r32 : R32 (0) (5) o60.1 := h28.resolve_left c29
                refine tp_g (r_add (l := 18) (h := 22) (r_n (x := (18 : Int32)) (l := 18) (h := 18) (by decide) (by decide)) r3 (by decide) (by decide) (by decide) (by decide)) (by decide) (by decide) ?_
                refine tp_g r32 (by decide) (by decide) ?_
                refine tp_if (fun c33 => ?_) (fun c33 => ?_)
                · skip
                  have r34 : R32 (2) (2) (q_q.2.2.2.2.2.2.2.2.2.2.2.1 (o60.1).toNatClampNeg) := r_eq1 (l := 2) (h := 2) (by decide) (by decide) (r_top _) (r_n (x := (2 : Int32)) (l := 2) (h := 2) (by decide) (by decide)) c33
                  exact t_f_X12_goesBy_x_J143 ih hm r3 h_v4_l2 h_v4_m_c_2_2
                · skip
                  refine tp_g (r_add (l := 0) (h := 5) (r_n (x := (0 : Int32)) (l := 0) (h := 0) (by decide) (by decide)) r32 (by decide) (by decide) (by decide) (by decide)) (by decide) (by decide) ?_
                  refine tp_n0 (fun z126 => ?_)
                  refine tp_g (r_add (l := 6) (h := 11) (r_n (x := (6 : Int32)) (l := 6) (h := 6) (by decide) (by decide)) r32 (by decide) (by decide) (by decide) (by decide)) (by decide) (by decide) ?_
                  refine tp_g (r_add (l := 12) (h := 17) (r_n (x := (12 : Int32)) (l := 12) (h := 12) (by decide) (by decide)) r32 (by decide) (by decide) (by decide) (by decide)) (by decide) (by decide) ?_
                  exact t_f_X12_goesBy_x_J143 ih hm r3 (r_or 6 63 h_v4_l2 (r_shl 0 5 (l := 1) (h := 32) r32 (by decide) (by decide) (by decide)) (by decide) (by decide) (by decide) (by decide) (by decide)) h_v4_m_c_2_2
            · skip
              have r35 : R32 (1) (1) o43 := r_neL (by decide) h25 (r_n (x := (0 : Int32)) (l := 0) (h := 0) (by decide) (by decide)) c26
              exact t_f_X12_goesBy_x_J143 ih hm r3 h_v4_l2 h_v4_m_c_2_2
        · skip
          refine tp_nl ?_
          refine tp_iff (d_ne2 (r_n (x := (1 : Int32)) (l := 1) (h := 1) (by decide) (by decide)) (r_n (x := (0 : Int32)) (l := 0) (h := 0) (by decide) (by decide)) (by decide)) ?_
          exact t_f_X12_goesBy_x_J149 h_v4_l2 h_v4_m_c_2_2
theorem t_f_X12_goesBy_x {m_w : TX12_w} {m_c : TX12_c} {q_q : TX11_q} (h_m_c_2_2 : R32 (0) (60) m_c.2.2) (h_q_q_1 : R32 (2) (8) q_q.1) (h_q_q_2_1 : R32 (1) (9) q_q.2.1) (h_q_q_2_2_2_2_1 : R32 (1) (4) q_q.2.2.2.2.1) (h_q_q_2_2_2_2_2_1 : R32 (0) (5) q_q.2.2.2.2.2.1) (h_q_q_2_2_2_2_2_2_1 : R32 (0) (6) q_q.2.2.2.2.2.2.1) (h_q_q_2_2_2_2_2_2_2_1 : R32 (0) (6) q_q.2.2.2.2.2.2.2.1) : TotP (f_X12_goesBy_x m_w m_c q_q) (fun (r : Int32 × TX12_w × TX12_c) => R32 (0) (63) r.1 ∧ R32 (0) (60) r.2.2.2.2) := by
  unfold f_X12_goesBy_x
  exact t_f_X12_goesBy_x_L4 h_q_q_1 h_q_q_2_1 h_q_q_2_2_2_2_1 h_q_q_2_2_2_2_2_1 h_q_q_2_2_2_2_2_2_1 h_q_q_2_2_2_2_2_2_2_1 FU _ _ _ _ (r_w (l' := 0) (h' := 5) (r_n (x := (0 : Int32)) (l := 0) (h := 0) (by decide) (by decide)) (by decide) (by decide)) (r_w (l' := 0) (h' := 63) (r_n (x := (0 : Int32)) (l := 0) (h := 0) (by decide) (by decide)) (by decide) (by decide)) h_m_c_2_2 (fu_up (r_w (l' := 0) (h' := 5) (r_n (x := (0 : Int32)) (l := 0) (h := 0) (by decide) (by decide)) (by decide) (by decide)) (by decide))
theorem t_f_X12_days_J110 {k30_ : Int32 → TX12_w → TX12_c → Option (TX12_w × TX12_c)} {o76 : (Int32 × TX12_w × TX12_c)} {v30_l4 : Int32} {v110_m_c : TX12_c} {N30 : Nat} (hk30 : ∀ (v30_l4 : Int32) (v30_m_w : TX12_w) (v30_m_c : TX12_c), R32 (1) (61) v30_l4 → R32 (0) (60) v30_m_c.2.2 → (61 : Int) - v30_l4.toInt < (N30 : Nat) → TotP (k30_ v30_l4 v30_m_w v30_m_c) (fun (r : TX12_w × TX12_c) => R32 (0) (60) r.2.2.2)) (hm30 : (61 : Int) - v30_l4.toInt < ((N30 + 1 : Nat) : Int)) (h_o76_1 : R32 (0) (63) o76.1) (h_o76_2_2_2_2 : R32 (0) (60) o76.2.2.2.2) (h_v30_l4 : R32 (1) (60) v30_l4) (h_v110_m_c_2_2 : R32 (0) (60) v110_m_c.2.2) : TotP (f_X12_days_J110 k30_ o76 v30_l4 v110_m_c) (fun (r : TX12_w × TX12_c) => R32 (0) (60) r.2.2.2) := by
  unfold f_X12_days_J110
  exact hk30 _ _ _ (r_w (l' := 1) (h' := 61) (r_add (l := 2) (h := 61) h_v30_l4 (r_n (x := (1 : Int32)) (l := 1) (h := 1) (by decide) (by decide)) (by decide) (by decide) (by decide) (by decide)) (by decide) (by decide)) h_v110_m_c_2_2 (ms_up (y := (1 : Int32)) h_v30_l4 (by decide) (by decide) (by decide) hm30)
theorem t_f_X12_days_L39 {k3 : Int32} {m_v : TX12_v} {q_q : TX11_q} {k30_ : Int32 → TX12_w → TX12_c → Option (TX12_w × TX12_c)} {v30_l4 : Int32} {v30_m_c : TX12_c} (h_k3 : R32 (0) (5) k3) (h_q_q_1 : R32 (2) (8) q_q.1) (h_q_q_2_1 : R32 (1) (9) q_q.2.1) (h_q_q_2_2_2_2_1 : R32 (1) (4) q_q.2.2.2.2.1) (h_q_q_2_2_2_2_2_1 : R32 (0) (5) q_q.2.2.2.2.2.1) (h_q_q_2_2_2_2_2_2_1 : R32 (0) (6) q_q.2.2.2.2.2.2.1) (h_q_q_2_2_2_2_2_2_2_1 : R32 (0) (6) q_q.2.2.2.2.2.2.2.1) {N30 : Nat} (hk30 : ∀ (v30_l4 : Int32) (v30_m_w : TX12_w) (v30_m_c : TX12_c), R32 (1) (61) v30_l4 → R32 (0) (60) v30_m_c.2.2 → (61 : Int) - v30_l4.toInt < (N30 : Nat) → TotP (k30_ v30_l4 v30_m_w v30_m_c) (fun (r : TX12_w × TX12_c) => R32 (0) (60) r.2.2.2)) (hm30 : (61 : Int) - v30_l4.toInt < ((N30 + 1 : Nat) : Int)) (h_v30_l4 : R32 (1) (60) v30_l4) (h_v30_m_c_2_2 : R32 (0) (60) v30_m_c.2.2) : ∀ (n : Nat) (v39_l5 : Int32) (v39_m_w : TX12_w), R32 (0) (5) v39_l5 → (5 : Int) - v39_l5.toInt < (n : Int) → TotP (f_X12_days_L39 k3 m_v q_q k30_ v30_l4 v30_m_c n v39_l5 v39_m_w) (fun (r : TX12_w × TX12_c) => R32 (0) (60) r.2.2.2) := by
  intro n
  induction n with
  | zero =>
    intro v39_l5 v39_m_w h_v39_l5 hm
    exact (ms_0u h_v39_l5 hm).elim
  | succ n ih =>
    intro v39_l5 v39_m_w h_v39_l5 hm
    rw [f_X12_days_L39]
    refine tp_if (fun c1 => ?_) (fun c1 => ?_)
    · skip
      have r2 : R32 (5) (5) v39_l5 := r_le2 (r_n (x := (5 : Int32)) (l := 5) (h := 5) (by decide) (by decide)) h_v39_l5 c1
      refine tp_b (t_f_X12_goesBy_x h_v30_m_c_2_2 h_q_q_1 h_q_q_2_1 h_q_q_2_2_2_2_1 h_q_q_2_2_2_2_2_1 h_q_q_2_2_2_2_2_2_1 h_q_q_2_2_2_2_2_2_2_1) (fun o76 h3 => ?_)
      obtain ⟨r4, r5⟩ := h3
      refine tp_b (t_f_X12_bits r4) (fun o88 h6 => ?_)
      refine tp_e (f_X12_bit.eq_1 _ _) ?_
      refine tp_nif (fun c7 => ?_) (fun c7 => ?_)
      · skip
        have r8 : R32 (1) (1) ((o76.1 >>> (k3 &&& (31 : Int32))) &&& (1 : Int32)) := r_eq1 (l := 1) (h := 1) (by decide) (by decide) r_and1 (r_n (x := (1 : Int32)) (l := 1) (h := 1) (by decide) (by decide)) c7
        refine tp_nl ?_
        refine tp_iff (d_ne2 (r_n (x := (1 : Int32)) (l := 1) (h := 1) (by decide) (by decide)) (r_n (x := (0 : Int32)) (l := 0) (h := 0) (by decide) (by decide)) (by decide)) ?_
        exact t_f_X12_days_J110 hk30 hm30 r4 r5 h_v30_l4 (r_w (l' := 0) (h' := 60) h_v30_l4 (by decide) (by decide))
      · skip
        have r9 : R32 (0) (0) ((o76.1 >>> (k3 &&& (31 : Int32))) &&& (1 : Int32)) := r_neH (by decide) r_and1 (r_n (x := (1 : Int32)) (l := 1) (h := 1) (by decide) (by decide)) c7
        refine tp_nl ?_
        refine tp_ift (d_eq (r_n (x := (0 : Int32)) (l := 0) (h := 0) (by decide) (by decide)) (r_n (x := (0 : Int32)) (l := 0) (h := 0) (by decide) (by decide))) ?_
        exact t_f_X12_days_J110 hk30 hm30 r4 r5 h_v30_l4 r5
    · skip
      have r10 : R32 (0) (4) v39_l5 := r_nle2 (by decide) (r_n (x := (5 : Int32)) (l := 5) (h := 5) (by decide) (by decide)) h_v39_l5 c1
      refine tp_g (r_add (l := 18) (h := 22) (r_n (x := (18 : Int32)) (l := 18) (h := 18) (by decide) (by decide)) r10 (by decide) (by decide) (by decide) (by decide)) (by decide) (by decide) ?_
      refine tp_g (r_add (l := 18) (h := 22) (r_n (x := (18 : Int32)) (l := 18) (h := 18) (by decide) (by decide)) r10 (by decide) (by decide) (by decide) (by decide)) (by decide) (by decide) ?_
      exact ih _ _ (r_w (l' := 0) (h' := 5) (r_add (l := 1) (h := 5) r10 (r_n (x := (1 : Int32)) (l := 1) (h := 1) (by decide) (by decide)) (by decide) (by decide) (by decide) (by decide)) (by decide) (by decide)) (ms_up (y := (1 : Int32)) r10 (by decide) (by decide) (by decide) hm)
theorem t_f_X12_days_L30 {k2 : Int32} {k3 : Int32} {m_v : TX12_v} {q_q : TX11_q} (h_k2 : R32 (0) (60) k2) (h_k3 : R32 (0) (5) k3) (h_q_q_1 : R32 (2) (8) q_q.1) (h_q_q_2_1 : R32 (1) (9) q_q.2.1) (h_q_q_2_2_2_2_1 : R32 (1) (4) q_q.2.2.2.2.1) (h_q_q_2_2_2_2_2_1 : R32 (0) (5) q_q.2.2.2.2.2.1) (h_q_q_2_2_2_2_2_2_1 : R32 (0) (6) q_q.2.2.2.2.2.2.1) (h_q_q_2_2_2_2_2_2_2_1 : R32 (0) (6) q_q.2.2.2.2.2.2.2.1) : ∀ (n : Nat) (v30_l4 : Int32) (v30_m_w : TX12_w) (v30_m_c : TX12_c), R32 (1) (61) v30_l4 → R32 (0) (60) v30_m_c.2.2 → (61 : Int) - v30_l4.toInt < (n : Int) → TotP (f_X12_days_L30 k2 k3 m_v q_q n v30_l4 v30_m_w v30_m_c) (fun (r : TX12_w × TX12_c) => R32 (0) (60) r.2.2.2) := by
  intro n
  induction n with
  | zero =>
    intro v30_l4 v30_m_w v30_m_c h_v30_l4 h_v30_m_c_2_2 hm
    exact (ms_0u h_v30_l4 hm).elim
  | succ n ih =>
    intro v30_l4 v30_m_w v30_m_c h_v30_l4 h_v30_m_c_2_2 hm
    rw [f_X12_days_L30]
    refine tp_if (fun c1 => ?_) (fun c1 => ?_)
    · skip
      exact tp_s h_v30_m_c_2_2
    · skip
      have r2 : R32 (1) (60) k2 := r_nlt1 h_k2 h_v30_l4 c1
      have r3 : R32 (1) (60) v30_l4 := r_nlt2 h_k2 h_v30_l4 c1
      exact t_f_X12_days_L39 h_k3 h_q_q_1 h_q_q_2_1 h_q_q_2_2_2_2_1 h_q_q_2_2_2_2_2_1 h_q_q_2_2_2_2_2_2_1 h_q_q_2_2_2_2_2_2_2_1 ih hm r3 h_v30_m_c_2_2 FU _ _ (r_w (l' := 0) (h' := 5) (r_n (x := (0 : Int32)) (l := 0) (h := 0) (by decide) (by decide)) (by decide) (by decide)) (fu_up (r_w (l' := 0) (h' := 5) (r_n (x := (0 : Int32)) (l := 0) (h := 0) (by decide) (by decide)) (by decide) (by decide)) (by decide))
theorem t_f_X12_days {k1 : Int32} {k2 : Int32} {k3 : Int32} {m_v : TX12_v} {m_w : TX12_w} {m_c : TX12_c} {q_q : TX11_q} (h_k1 : R32 (0) (65536) k1) (h_k2 : R32 (0) (60) k2) (h_k3 : R32 (0) (5) k3) (h_q_q_1 : R32 (2) (8) q_q.1) (h_q_q_2_1 : R32 (1) (9) q_q.2.1) (h_q_q_2_2_2_2_1 : R32 (1) (4) q_q.2.2.2.2.1) (h_q_q_2_2_2_2_2_1 : R32 (0) (5) q_q.2.2.2.2.2.1) (h_q_q_2_2_2_2_2_2_1 : R32 (0) (6) q_q.2.2.2.2.2.2.1) (h_q_q_2_2_2_2_2_2_2_1 : R32 (0) (6) q_q.2.2.2.2.2.2.2.1) : TotP (f_X12_days k1 k2 k3 m_v m_w m_c q_q) (fun (r : TX12_w × TX12_c) => R32 (0) (60) r.2.2.2) := by
  unfold f_X12_days
  refine tp_b (t_f_X12_tries ) (fun o1 h1 => ?_)
  exact t_f_X12_days_L30 h_k2 h_k3 h_q_q_1 h_q_q_2_1 h_q_q_2_2_2_2_1 h_q_q_2_2_2_2_2_1 h_q_q_2_2_2_2_2_2_1 h_q_q_2_2_2_2_2_2_2_1 FU _ _ _ (r_w (l' := 1) (h' := 61) (r_n (x := (1 : Int32)) (l := 1) (h := 1) (by decide) (by decide)) (by decide) (by decide)) (r_w (l' := 0) (h' := 60) (r_n (x := (0 : Int32)) (l := 0) (h := 0) (by decide) (by decide)) (by decide) (by decide)) (fu_up (r_w (l' := 1) (h' := 61) (r_n (x := (1 : Int32)) (l := 1) (h := 1) (by decide) (by decide)) (by decide) (by decide)) (by decide))
theorem t_f_X12_landed {k1 : Int32} {k2 : Int32} {m_t : TX12_t} {m_v : TX12_v} {m_w : TX12_w} {m_c : TX12_c} {q_q : TX11_q} (h_q_q_1 : R32 (2) (8) q_q.1) (h_q_q_2_1 : R32 (1) (9) q_q.2.1) (h_q_q_2_2_2_2_1 : R32 (1) (4) q_q.2.2.2.2.1) (h_q_q_2_2_2_2_2_1 : R32 (0) (5) q_q.2.2.2.2.2.1) (h_q_q_2_2_2_2_2_2_1 : R32 (0) (6) q_q.2.2.2.2.2.2.1) (h_q_q_2_2_2_2_2_2_2_1 : R32 (0) (6) q_q.2.2.2.2.2.2.2.1) : TotP (f_X12_landed k1 k2 m_t m_v m_w m_c q_q) (fun (r : Int32 × TX12_t × TX12_w × TX12_c) => R32 (0) (0) r.2.1.1 ∧ R32 (0) (2) r.2.1.2.1 ∧ R32 (-1) (-1) r.2.1.2.2) := by
  unfold f_X12_landed
  refine tp_e (f_X12_refusesDays.eq_1 _ _ _) ?_
  refine tp_niff (d_ne2 (r_n (x := (1 : Int32)) (l := 1) (h := 1) (by decide) (by decide)) (r_n (x := (0 : Int32)) (l := 0) (h := 0) (by decide) (by decide)) (by decide)) ?_
  refine tp_nn ?_
  refine tp_e (f_X12_in.eq_1 _ _ _) ?_
  refine tp_nif (fun c1 => ?_) (fun c1 => ?_)
  · skip
    have r2 : R32 (-2147483648) (-1) k1 := r_lt1 (by decide) (r_top _) (r_n (x := (0 : Int32)) (l := 0) (h := 0) (by decide) (by decide)) c1
    refine tp_nl ?_
    refine tp_nift (d_eq (r_n (x := (0 : Int32)) (l := 0) (h := 0) (by decide) (by decide)) (r_n (x := (0 : Int32)) (l := 0) (h := 0) (by decide) (by decide))) ?_
    refine tp_nl ?_
    refine tp_iff (d_nle (r_n (x := (2 : Int32)) (l := 2) (h := 2) (by decide) (by decide)) (r_n (x := (0 : Int32)) (l := 0) (h := 0) (by decide) (by decide)) (by decide)) ?_
    refine tp_e (f_X12_refused.eq_1 _ _) ?_
    refine tp_nl ?_
    exact tp_s ⟨(r_n (x := (0 : Int32)) (l := 0) (h := 0) (by decide) (by decide)), (r_w (l' := 0) (h' := 2) (r_n (x := (2 : Int32)) (l := 2) (h := 2) (by decide) (by decide)) (by decide) (by decide)), (r_n (x := (-1 : Int32)) (l := -1) (h := -1) (by decide) (by decide))⟩
  · skip
    have r3 : R32 (0) (2147483647) k1 := r_nlt1 (r_top _) (r_n (x := (0 : Int32)) (l := 0) (h := 0) (by decide) (by decide)) c1
    refine tp_nif (fun c4 => ?_) (fun c4 => ?_)
    · skip
      have r5 : R32 (65537) (2147483647) k1 := r_lt2 (by decide) (r_n (x := (65536 : Int32)) (l := 65536) (h := 65536) (by decide) (by decide)) r3 c4
      refine tp_nl ?_
      refine tp_nift (d_eq (r_n (x := (0 : Int32)) (l := 0) (h := 0) (by decide) (by decide)) (r_n (x := (0 : Int32)) (l := 0) (h := 0) (by decide) (by decide))) ?_
      refine tp_nl ?_
      refine tp_iff (d_nle (r_n (x := (2 : Int32)) (l := 2) (h := 2) (by decide) (by decide)) (r_n (x := (0 : Int32)) (l := 0) (h := 0) (by decide) (by decide)) (by decide)) ?_
      refine tp_e (f_X12_refused.eq_1 _ _) ?_
      refine tp_nl ?_
      exact tp_s ⟨(r_n (x := (0 : Int32)) (l := 0) (h := 0) (by decide) (by decide)), (r_w (l' := 0) (h' := 2) (r_n (x := (2 : Int32)) (l := 2) (h := 2) (by decide) (by decide)) (by decide) (by decide)), (r_n (x := (-1 : Int32)) (l := -1) (h := -1) (by decide) (by decide))⟩
    · skip
      have r6 : R32 (0) (65536) k1 := r_nlt2 (r_n (x := (65536 : Int32)) (l := 65536) (h := 65536) (by decide) (by decide)) r3 c4
      refine tp_nl ?_
      refine tp_niff (d_ne2 (r_n (x := (1 : Int32)) (l := 1) (h := 1) (by decide) (by decide)) (r_n (x := (0 : Int32)) (l := 0) (h := 0) (by decide) (by decide)) (by decide)) ?_
      refine tp_nn ?_
      refine tp_e (f_X12_in.eq_1 _ _ _) ?_
      refine tp_nif (fun c7 => ?_) (fun c7 => ?_)
      · skip
        have r8 : R32 (-2147483648) (-1) k2 := r_lt1 (by decide) (r_top _) (r_n (x := (0 : Int32)) (l := 0) (h := 0) (by decide) (by decide)) c7
        refine tp_nl ?_
        refine tp_nift (d_eq (r_n (x := (0 : Int32)) (l := 0) (h := 0) (by decide) (by decide)) (r_n (x := (0 : Int32)) (l := 0) (h := 0) (by decide) (by decide))) ?_
        refine tp_nl ?_
        refine tp_iff (d_nle (r_n (x := (2 : Int32)) (l := 2) (h := 2) (by decide) (by decide)) (r_n (x := (0 : Int32)) (l := 0) (h := 0) (by decide) (by decide)) (by decide)) ?_
        refine tp_e (f_X12_refused.eq_1 _ _) ?_
        refine tp_nl ?_
        exact tp_s ⟨(r_n (x := (0 : Int32)) (l := 0) (h := 0) (by decide) (by decide)), (r_w (l' := 0) (h' := 2) (r_n (x := (2 : Int32)) (l := 2) (h := 2) (by decide) (by decide)) (by decide) (by decide)), (r_n (x := (-1 : Int32)) (l := -1) (h := -1) (by decide) (by decide))⟩
      · skip
        have r9 : R32 (0) (2147483647) k2 := r_nlt1 (r_top _) (r_n (x := (0 : Int32)) (l := 0) (h := 0) (by decide) (by decide)) c7
        refine tp_nif (fun c10 => ?_) (fun c10 => ?_)
        · skip
          have r11 : R32 (61) (2147483647) k2 := r_lt2 (by decide) (r_n (x := (60 : Int32)) (l := 60) (h := 60) (by decide) (by decide)) r9 c10
          refine tp_nl ?_
          refine tp_nift (d_eq (r_n (x := (0 : Int32)) (l := 0) (h := 0) (by decide) (by decide)) (r_n (x := (0 : Int32)) (l := 0) (h := 0) (by decide) (by decide))) ?_
          refine tp_nl ?_
          refine tp_iff (d_nle (r_n (x := (2 : Int32)) (l := 2) (h := 2) (by decide) (by decide)) (r_n (x := (0 : Int32)) (l := 0) (h := 0) (by decide) (by decide)) (by decide)) ?_
          refine tp_e (f_X12_refused.eq_1 _ _) ?_
          refine tp_nl ?_
          exact tp_s ⟨(r_n (x := (0 : Int32)) (l := 0) (h := 0) (by decide) (by decide)), (r_w (l' := 0) (h' := 2) (r_n (x := (2 : Int32)) (l := 2) (h := 2) (by decide) (by decide)) (by decide) (by decide)), (r_n (x := (-1 : Int32)) (l := -1) (h := -1) (by decide) (by decide))⟩
        · skip
          have r12 : R32 (0) (60) k2 := r_nlt2 (r_n (x := (60 : Int32)) (l := 60) (h := 60) (by decide) (by decide)) r9 c10
          refine tp_nl ?_
          refine tp_niff (d_ne2 (r_n (x := (1 : Int32)) (l := 1) (h := 1) (by decide) (by decide)) (r_n (x := (0 : Int32)) (l := 0) (h := 0) (by decide) (by decide)) (by decide)) ?_
          refine tp_nl ?_
          refine tp_ift (d_le (r_n (x := (0 : Int32)) (l := 0) (h := 0) (by decide) (by decide)) (r_n (x := (0 : Int32)) (l := 0) (h := 0) (by decide) (by decide)) (by decide)) ?_
          refine tp_b (t_f_X12_days r6 r12 (r_w (l' := 0) (h' := 5) (r_n (x := (0 : Int32)) (l := 0) (h := 0) (by decide) (by decide)) (by decide) (by decide)) h_q_q_1 h_q_q_2_1 h_q_q_2_2_2_2_1 h_q_q_2_2_2_2_2_1 h_q_q_2_2_2_2_2_2_1 h_q_q_2_2_2_2_2_2_2_1) (fun o38 h13 => ?_)
          refine tp_e (f_X12_good.eq_1 _ _) ?_
          refine tp_nl ?_
          exact tp_s ⟨(r_n (x := (0 : Int32)) (l := 0) (h := 0) (by decide) (by decide)), (r_w (l' := 0) (h' := 2) (r_n (x := (0 : Int32)) (l := 0) (h := 0) (by decide) (by decide)) (by decide) (by decide)), (r_n (x := (-1 : Int32)) (l := -1) (h := -1) (by decide) (by decide))⟩
theorem t_f_X12_landedIn {k1 : Int32} {k2 : Int32} {k3 : Int32} {m_t : TX12_t} {m_v : TX12_v} {m_w : TX12_w} {m_c : TX12_c} {q_q : TX11_q} (h_q_q_1 : R32 (2) (8) q_q.1) (h_q_q_2_1 : R32 (1) (9) q_q.2.1) (h_q_q_2_2_2_2_1 : R32 (1) (4) q_q.2.2.2.2.1) (h_q_q_2_2_2_2_2_1 : R32 (0) (5) q_q.2.2.2.2.2.1) (h_q_q_2_2_2_2_2_2_1 : R32 (0) (6) q_q.2.2.2.2.2.2.1) (h_q_q_2_2_2_2_2_2_2_1 : R32 (0) (6) q_q.2.2.2.2.2.2.2.1) : TotP (f_X12_landedIn k1 k2 k3 m_t m_v m_w m_c q_q) (fun (r : Int32 × TX12_t × TX12_w × TX12_c) => R32 (-1) (60) r.1 ∧ R32 (0) (0) r.2.1.1 ∧ R32 (0) (2) r.2.1.2.1 ∧ R32 (-1) (-1) r.2.1.2.2) := by
  unfold f_X12_landedIn
  refine tp_e (f_X12_isAnswer.eq_1 _ _) ?_
  refine tp_nif (fun c1 => ?_) (fun c1 => ?_)
  · skip
    have r2 : R32 (-2147483648) (-1) k1 := r_lt1 (by decide) (r_top _) (r_n (x := (0 : Int32)) (l := 0) (h := 0) (by decide) (by decide)) c1
    refine tp_nl ?_
    refine tp_e (f_X12_refusesDays.eq_1 _ _ _) ?_
    refine tp_nift (d_eq (r_n (x := (0 : Int32)) (l := 0) (h := 0) (by decide) (by decide)) (r_n (x := (0 : Int32)) (l := 0) (h := 0) (by decide) (by decide))) ?_
    refine tp_nl ?_
    refine tp_iff (d_nle (r_n (x := (1 : Int32)) (l := 1) (h := 1) (by decide) (by decide)) (r_n (x := (0 : Int32)) (l := 0) (h := 0) (by decide) (by decide)) (by decide)) ?_
    refine tp_e (f_X12_refused.eq_1 _ _) ?_
    refine tp_nl ?_
    exact tp_s ⟨(r_w (l' := -1) (h' := 60) (r_n (x := (-1 : Int32)) (l := -1) (h := -1) (by decide) (by decide)) (by decide) (by decide)), (r_n (x := (0 : Int32)) (l := 0) (h := 0) (by decide) (by decide)), (r_w (l' := 0) (h' := 2) (r_n (x := (1 : Int32)) (l := 1) (h := 1) (by decide) (by decide)) (by decide) (by decide)), (r_n (x := (-1 : Int32)) (l := -1) (h := -1) (by decide) (by decide))⟩
  · skip
    have r3 : R32 (0) (2147483647) k1 := r_nlt1 (r_top _) (r_n (x := (0 : Int32)) (l := 0) (h := 0) (by decide) (by decide)) c1
    refine tp_nif (fun c4 => ?_) (fun c4 => ?_)
    · skip
      refine tp_nl ?_
      refine tp_e (f_X12_refusesDays.eq_1 _ _ _) ?_
      refine tp_nift (d_eq (r_n (x := (0 : Int32)) (l := 0) (h := 0) (by decide) (by decide)) (r_n (x := (0 : Int32)) (l := 0) (h := 0) (by decide) (by decide))) ?_
      refine tp_nl ?_
      refine tp_iff (d_nle (r_n (x := (1 : Int32)) (l := 1) (h := 1) (by decide) (by decide)) (r_n (x := (0 : Int32)) (l := 0) (h := 0) (by decide) (by decide)) (by decide)) ?_
      refine tp_e (f_X12_refused.eq_1 _ _) ?_
      refine tp_nl ?_
      exact tp_s ⟨(r_w (l' := -1) (h' := 60) (r_n (x := (-1 : Int32)) (l := -1) (h := -1) (by decide) (by decide)) (by decide) (by decide)), (r_n (x := (0 : Int32)) (l := 0) (h := 0) (by decide) (by decide)), (r_w (l' := 0) (h' := 2) (r_n (x := (1 : Int32)) (l := 1) (h := 1) (by decide) (by decide)) (by decide) (by decide)), (r_n (x := (-1 : Int32)) (l := -1) (h := -1) (by decide) (by decide))⟩
    · skip
      have r5 : R32 (1) (6) q_q.2.2.2.2.2.2.1 := r_nle1 (by decide) h_q_q_2_2_2_2_2_2_1 r3 c4
      have r6 : R32 (0) (5) k1 := r_nle2 (by decide) h_q_q_2_2_2_2_2_2_1 r3 c4
      refine tp_nl ?_
      refine tp_e (f_X12_refusesDays.eq_1 _ _ _) ?_
      refine tp_niff (d_ne2 (r_n (x := (1 : Int32)) (l := 1) (h := 1) (by decide) (by decide)) (r_n (x := (0 : Int32)) (l := 0) (h := 0) (by decide) (by decide)) (by decide)) ?_
      refine tp_nn ?_
      refine tp_e (f_X12_in.eq_1 _ _ _) ?_
      refine tp_nif (fun c7 => ?_) (fun c7 => ?_)
      · skip
        have r8 : R32 (-2147483648) (-1) k2 := r_lt1 (by decide) (r_top _) (r_n (x := (0 : Int32)) (l := 0) (h := 0) (by decide) (by decide)) c7
        refine tp_nl ?_
        refine tp_nift (d_eq (r_n (x := (0 : Int32)) (l := 0) (h := 0) (by decide) (by decide)) (r_n (x := (0 : Int32)) (l := 0) (h := 0) (by decide) (by decide))) ?_
        refine tp_nl ?_
        refine tp_iff (d_nle (r_n (x := (2 : Int32)) (l := 2) (h := 2) (by decide) (by decide)) (r_n (x := (0 : Int32)) (l := 0) (h := 0) (by decide) (by decide)) (by decide)) ?_
        refine tp_e (f_X12_refused.eq_1 _ _) ?_
        refine tp_nl ?_
        exact tp_s ⟨(r_w (l' := -1) (h' := 60) (r_n (x := (-1 : Int32)) (l := -1) (h := -1) (by decide) (by decide)) (by decide) (by decide)), (r_n (x := (0 : Int32)) (l := 0) (h := 0) (by decide) (by decide)), (r_w (l' := 0) (h' := 2) (r_n (x := (2 : Int32)) (l := 2) (h := 2) (by decide) (by decide)) (by decide) (by decide)), (r_n (x := (-1 : Int32)) (l := -1) (h := -1) (by decide) (by decide))⟩
      · skip
        have r9 : R32 (0) (2147483647) k2 := r_nlt1 (r_top _) (r_n (x := (0 : Int32)) (l := 0) (h := 0) (by decide) (by decide)) c7
        refine tp_nif (fun c10 => ?_) (fun c10 => ?_)
        · skip
          have r11 : R32 (65537) (2147483647) k2 := r_lt2 (by decide) (r_n (x := (65536 : Int32)) (l := 65536) (h := 65536) (by decide) (by decide)) r9 c10
          refine tp_nl ?_
          refine tp_nift (d_eq (r_n (x := (0 : Int32)) (l := 0) (h := 0) (by decide) (by decide)) (r_n (x := (0 : Int32)) (l := 0) (h := 0) (by decide) (by decide))) ?_
          refine tp_nl ?_
          refine tp_iff (d_nle (r_n (x := (2 : Int32)) (l := 2) (h := 2) (by decide) (by decide)) (r_n (x := (0 : Int32)) (l := 0) (h := 0) (by decide) (by decide)) (by decide)) ?_
          refine tp_e (f_X12_refused.eq_1 _ _) ?_
          refine tp_nl ?_
          exact tp_s ⟨(r_w (l' := -1) (h' := 60) (r_n (x := (-1 : Int32)) (l := -1) (h := -1) (by decide) (by decide)) (by decide) (by decide)), (r_n (x := (0 : Int32)) (l := 0) (h := 0) (by decide) (by decide)), (r_w (l' := 0) (h' := 2) (r_n (x := (2 : Int32)) (l := 2) (h := 2) (by decide) (by decide)) (by decide) (by decide)), (r_n (x := (-1 : Int32)) (l := -1) (h := -1) (by decide) (by decide))⟩
        · skip
          have r12 : R32 (0) (65536) k2 := r_nlt2 (r_n (x := (65536 : Int32)) (l := 65536) (h := 65536) (by decide) (by decide)) r9 c10
          refine tp_nl ?_
          refine tp_niff (d_ne2 (r_n (x := (1 : Int32)) (l := 1) (h := 1) (by decide) (by decide)) (r_n (x := (0 : Int32)) (l := 0) (h := 0) (by decide) (by decide)) (by decide)) ?_
          refine tp_nn ?_
          refine tp_e (f_X12_in.eq_1 _ _ _) ?_
          refine tp_nif (fun c13 => ?_) (fun c13 => ?_)
          · skip
            have r14 : R32 (-2147483648) (-1) k3 := r_lt1 (by decide) (r_top _) (r_n (x := (0 : Int32)) (l := 0) (h := 0) (by decide) (by decide)) c13
            refine tp_nl ?_
            refine tp_nift (d_eq (r_n (x := (0 : Int32)) (l := 0) (h := 0) (by decide) (by decide)) (r_n (x := (0 : Int32)) (l := 0) (h := 0) (by decide) (by decide))) ?_
            refine tp_nl ?_
            refine tp_iff (d_nle (r_n (x := (2 : Int32)) (l := 2) (h := 2) (by decide) (by decide)) (r_n (x := (0 : Int32)) (l := 0) (h := 0) (by decide) (by decide)) (by decide)) ?_
            refine tp_e (f_X12_refused.eq_1 _ _) ?_
            refine tp_nl ?_
            exact tp_s ⟨(r_w (l' := -1) (h' := 60) (r_n (x := (-1 : Int32)) (l := -1) (h := -1) (by decide) (by decide)) (by decide) (by decide)), (r_n (x := (0 : Int32)) (l := 0) (h := 0) (by decide) (by decide)), (r_w (l' := 0) (h' := 2) (r_n (x := (2 : Int32)) (l := 2) (h := 2) (by decide) (by decide)) (by decide) (by decide)), (r_n (x := (-1 : Int32)) (l := -1) (h := -1) (by decide) (by decide))⟩
          · skip
            have r15 : R32 (0) (2147483647) k3 := r_nlt1 (r_top _) (r_n (x := (0 : Int32)) (l := 0) (h := 0) (by decide) (by decide)) c13
            refine tp_nif (fun c16 => ?_) (fun c16 => ?_)
            · skip
              have r17 : R32 (61) (2147483647) k3 := r_lt2 (by decide) (r_n (x := (60 : Int32)) (l := 60) (h := 60) (by decide) (by decide)) r15 c16
              refine tp_nl ?_
              refine tp_nift (d_eq (r_n (x := (0 : Int32)) (l := 0) (h := 0) (by decide) (by decide)) (r_n (x := (0 : Int32)) (l := 0) (h := 0) (by decide) (by decide))) ?_
              refine tp_nl ?_
              refine tp_iff (d_nle (r_n (x := (2 : Int32)) (l := 2) (h := 2) (by decide) (by decide)) (r_n (x := (0 : Int32)) (l := 0) (h := 0) (by decide) (by decide)) (by decide)) ?_
              refine tp_e (f_X12_refused.eq_1 _ _) ?_
              refine tp_nl ?_
              exact tp_s ⟨(r_w (l' := -1) (h' := 60) (r_n (x := (-1 : Int32)) (l := -1) (h := -1) (by decide) (by decide)) (by decide) (by decide)), (r_n (x := (0 : Int32)) (l := 0) (h := 0) (by decide) (by decide)), (r_w (l' := 0) (h' := 2) (r_n (x := (2 : Int32)) (l := 2) (h := 2) (by decide) (by decide)) (by decide) (by decide)), (r_n (x := (-1 : Int32)) (l := -1) (h := -1) (by decide) (by decide))⟩
            · skip
              have r18 : R32 (0) (60) k3 := r_nlt2 (r_n (x := (60 : Int32)) (l := 60) (h := 60) (by decide) (by decide)) r15 c16
              refine tp_nl ?_
              refine tp_niff (d_ne2 (r_n (x := (1 : Int32)) (l := 1) (h := 1) (by decide) (by decide)) (r_n (x := (0 : Int32)) (l := 0) (h := 0) (by decide) (by decide)) (by decide)) ?_
              refine tp_nl ?_
              refine tp_ift (d_le (r_n (x := (0 : Int32)) (l := 0) (h := 0) (by decide) (by decide)) (r_n (x := (0 : Int32)) (l := 0) (h := 0) (by decide) (by decide)) (by decide)) ?_
              refine tp_b (t_f_X12_days r12 r18 r6 h_q_q_1 h_q_q_2_1 h_q_q_2_2_2_2_1 h_q_q_2_2_2_2_2_1 (r_w (l' := 0) (h' := 6) r5 (by decide) (by decide)) h_q_q_2_2_2_2_2_2_2_1) (fun o34 h19 => ?_)
              refine tp_e (f_X12_good.eq_1 _ _) ?_
              refine tp_nl ?_
              exact tp_s ⟨(r_w (l' := -1) (h' := 60) h19 (by decide) (by decide)), (r_n (x := (0 : Int32)) (l := 0) (h := 0) (by decide) (by decide)), (r_w (l' := 0) (h' := 2) (r_n (x := (0 : Int32)) (l := 0) (h := 0) (by decide) (by decide)) (by decide) (by decide)), (r_n (x := (-1 : Int32)) (l := -1) (h := -1) (by decide) (by decide))⟩
theorem t_f_X12_crabs {k1 : Int32} {k2 : Int32} {m_t : TX12_t} {m_v : TX12_v} {m_w : TX12_w} {m_c : TX12_c} {q_q : TX11_q} (h_q_q_1 : R32 (2) (8) q_q.1) (h_q_q_2_1 : R32 (1) (9) q_q.2.1) (h_q_q_2_2_2_2_1 : R32 (1) (4) q_q.2.2.2.2.1) (h_q_q_2_2_2_2_2_1 : R32 (0) (5) q_q.2.2.2.2.2.1) (h_q_q_2_2_2_2_2_2_1 : R32 (0) (6) q_q.2.2.2.2.2.2.1) (h_q_q_2_2_2_2_2_2_2_1 : R32 (0) (6) q_q.2.2.2.2.2.2.2.1) : TotP (f_X12_crabs k1 k2 m_t m_v m_w m_c q_q) (fun (r : Int32 × TX12_t × TX12_w × TX12_c) => R32 (0) (0) r.2.1.1 ∧ R32 (0) (2) r.2.1.2.1 ∧ R32 (-1) (-1) r.2.1.2.2) := by
  unfold f_X12_crabs
  refine tp_e (f_X12_refusesDays.eq_1 _ _ _) ?_
  refine tp_niff (d_ne2 (r_n (x := (1 : Int32)) (l := 1) (h := 1) (by decide) (by decide)) (r_n (x := (0 : Int32)) (l := 0) (h := 0) (by decide) (by decide)) (by decide)) ?_
  refine tp_nn ?_
  refine tp_e (f_X12_in.eq_1 _ _ _) ?_
  refine tp_nif (fun c1 => ?_) (fun c1 => ?_)
  · skip
    have r2 : R32 (-2147483648) (-1) k1 := r_lt1 (by decide) (r_top _) (r_n (x := (0 : Int32)) (l := 0) (h := 0) (by decide) (by decide)) c1
    refine tp_nl ?_
    refine tp_nift (d_eq (r_n (x := (0 : Int32)) (l := 0) (h := 0) (by decide) (by decide)) (r_n (x := (0 : Int32)) (l := 0) (h := 0) (by decide) (by decide))) ?_
    refine tp_nl ?_
    refine tp_iff (d_nle (r_n (x := (2 : Int32)) (l := 2) (h := 2) (by decide) (by decide)) (r_n (x := (0 : Int32)) (l := 0) (h := 0) (by decide) (by decide)) (by decide)) ?_
    refine tp_e (f_X12_refused.eq_1 _ _) ?_
    refine tp_nl ?_
    exact tp_s ⟨(r_n (x := (0 : Int32)) (l := 0) (h := 0) (by decide) (by decide)), (r_w (l' := 0) (h' := 2) (r_n (x := (2 : Int32)) (l := 2) (h := 2) (by decide) (by decide)) (by decide) (by decide)), (r_n (x := (-1 : Int32)) (l := -1) (h := -1) (by decide) (by decide))⟩
  · skip
    have r3 : R32 (0) (2147483647) k1 := r_nlt1 (r_top _) (r_n (x := (0 : Int32)) (l := 0) (h := 0) (by decide) (by decide)) c1
    refine tp_nif (fun c4 => ?_) (fun c4 => ?_)
    · skip
      have r5 : R32 (65537) (2147483647) k1 := r_lt2 (by decide) (r_n (x := (65536 : Int32)) (l := 65536) (h := 65536) (by decide) (by decide)) r3 c4
      refine tp_nl ?_
      refine tp_nift (d_eq (r_n (x := (0 : Int32)) (l := 0) (h := 0) (by decide) (by decide)) (r_n (x := (0 : Int32)) (l := 0) (h := 0) (by decide) (by decide))) ?_
      refine tp_nl ?_
      refine tp_iff (d_nle (r_n (x := (2 : Int32)) (l := 2) (h := 2) (by decide) (by decide)) (r_n (x := (0 : Int32)) (l := 0) (h := 0) (by decide) (by decide)) (by decide)) ?_
      refine tp_e (f_X12_refused.eq_1 _ _) ?_
      refine tp_nl ?_
      exact tp_s ⟨(r_n (x := (0 : Int32)) (l := 0) (h := 0) (by decide) (by decide)), (r_w (l' := 0) (h' := 2) (r_n (x := (2 : Int32)) (l := 2) (h := 2) (by decide) (by decide)) (by decide) (by decide)), (r_n (x := (-1 : Int32)) (l := -1) (h := -1) (by decide) (by decide))⟩
    · skip
      have r6 : R32 (0) (65536) k1 := r_nlt2 (r_n (x := (65536 : Int32)) (l := 65536) (h := 65536) (by decide) (by decide)) r3 c4
      refine tp_nl ?_
      refine tp_niff (d_ne2 (r_n (x := (1 : Int32)) (l := 1) (h := 1) (by decide) (by decide)) (r_n (x := (0 : Int32)) (l := 0) (h := 0) (by decide) (by decide)) (by decide)) ?_
      refine tp_nn ?_
      refine tp_e (f_X12_in.eq_1 _ _ _) ?_
      refine tp_nif (fun c7 => ?_) (fun c7 => ?_)
      · skip
        have r8 : R32 (-2147483648) (-1) k2 := r_lt1 (by decide) (r_top _) (r_n (x := (0 : Int32)) (l := 0) (h := 0) (by decide) (by decide)) c7
        refine tp_nl ?_
        refine tp_nift (d_eq (r_n (x := (0 : Int32)) (l := 0) (h := 0) (by decide) (by decide)) (r_n (x := (0 : Int32)) (l := 0) (h := 0) (by decide) (by decide))) ?_
        refine tp_nl ?_
        refine tp_iff (d_nle (r_n (x := (2 : Int32)) (l := 2) (h := 2) (by decide) (by decide)) (r_n (x := (0 : Int32)) (l := 0) (h := 0) (by decide) (by decide)) (by decide)) ?_
        refine tp_e (f_X12_refused.eq_1 _ _) ?_
        refine tp_nl ?_
        exact tp_s ⟨(r_n (x := (0 : Int32)) (l := 0) (h := 0) (by decide) (by decide)), (r_w (l' := 0) (h' := 2) (r_n (x := (2 : Int32)) (l := 2) (h := 2) (by decide) (by decide)) (by decide) (by decide)), (r_n (x := (-1 : Int32)) (l := -1) (h := -1) (by decide) (by decide))⟩
      · skip
        have r9 : R32 (0) (2147483647) k2 := r_nlt1 (r_top _) (r_n (x := (0 : Int32)) (l := 0) (h := 0) (by decide) (by decide)) c7
        refine tp_nif (fun c10 => ?_) (fun c10 => ?_)
        · skip
          have r11 : R32 (61) (2147483647) k2 := r_lt2 (by decide) (r_n (x := (60 : Int32)) (l := 60) (h := 60) (by decide) (by decide)) r9 c10
          refine tp_nl ?_
          refine tp_nift (d_eq (r_n (x := (0 : Int32)) (l := 0) (h := 0) (by decide) (by decide)) (r_n (x := (0 : Int32)) (l := 0) (h := 0) (by decide) (by decide))) ?_
          refine tp_nl ?_
          refine tp_iff (d_nle (r_n (x := (2 : Int32)) (l := 2) (h := 2) (by decide) (by decide)) (r_n (x := (0 : Int32)) (l := 0) (h := 0) (by decide) (by decide)) (by decide)) ?_
          refine tp_e (f_X12_refused.eq_1 _ _) ?_
          refine tp_nl ?_
          exact tp_s ⟨(r_n (x := (0 : Int32)) (l := 0) (h := 0) (by decide) (by decide)), (r_w (l' := 0) (h' := 2) (r_n (x := (2 : Int32)) (l := 2) (h := 2) (by decide) (by decide)) (by decide) (by decide)), (r_n (x := (-1 : Int32)) (l := -1) (h := -1) (by decide) (by decide))⟩
        · skip
          have r12 : R32 (0) (60) k2 := r_nlt2 (r_n (x := (60 : Int32)) (l := 60) (h := 60) (by decide) (by decide)) r9 c10
          refine tp_nl ?_
          refine tp_niff (d_ne2 (r_n (x := (1 : Int32)) (l := 1) (h := 1) (by decide) (by decide)) (r_n (x := (0 : Int32)) (l := 0) (h := 0) (by decide) (by decide)) (by decide)) ?_
          refine tp_nl ?_
          refine tp_ift (d_le (r_n (x := (0 : Int32)) (l := 0) (h := 0) (by decide) (by decide)) (r_n (x := (0 : Int32)) (l := 0) (h := 0) (by decide) (by decide)) (by decide)) ?_
          refine tp_b (t_f_X12_days r6 r12 (r_w (l' := 0) (h' := 5) (r_n (x := (0 : Int32)) (l := 0) (h := 0) (by decide) (by decide)) (by decide) (by decide)) h_q_q_1 h_q_q_2_1 h_q_q_2_2_2_2_1 h_q_q_2_2_2_2_2_1 h_q_q_2_2_2_2_2_2_1 h_q_q_2_2_2_2_2_2_2_1) (fun o38 h13 => ?_)
          refine tp_e (f_X12_good.eq_1 _ _) ?_
          refine tp_nl ?_
          exact tp_s ⟨(r_n (x := (0 : Int32)) (l := 0) (h := 0) (by decide) (by decide)), (r_w (l' := 0) (h' := 2) (r_n (x := (0 : Int32)) (l := 0) (h := 0) (by decide) (by decide)) (by decide) (by decide)), (r_n (x := (-1 : Int32)) (l := -1) (h := -1) (by decide) (by decide))⟩
