/-! the functions answer, part 5 -/
theorem t_f_X12_likeliest_J100 {k57_ : Int32 → Int64 → Int32 → Option (Int32 × TX12_t)} {v57_l9 : Int32} {v100_l6 : Int32} {v100_l7 : Int64} {N57 : Nat} (hk57 : ∀ (v57_l9 : Int32) (v57_l7 : Int64) (v57_l6 : Int32), R32 (0) (6) v57_l9 → R32 (-2) (5) v57_l6 → (6 : Int) - v57_l9.toInt < (N57 : Nat) → TotP (k57_ v57_l9 v57_l7 v57_l6) (fun (r : Int32 × TX12_t) => R32 (-2) (5) r.1 ∧ R32 (0) (0) r.2.1 ∧ R32 (0) (2) r.2.2.1 ∧ R32 (-1) (-1) r.2.2.2)) (hm57 : (6 : Int) - v57_l9.toInt < ((N57 + 1 : Nat) : Int)) (h_v57_l9 : R32 (0) (5) v57_l9) (h_v100_l6 : R32 (-2) (5) v100_l6) : TotP (f_X12_likeliest_J100 k57_ v57_l9 v100_l6 v100_l7) (fun (r : Int32 × TX12_t) => R32 (-2) (5) r.1 ∧ R32 (0) (0) r.2.1 ∧ R32 (0) (2) r.2.2.1 ∧ R32 (-1) (-1) r.2.2.2) := by
  unfold f_X12_likeliest_J100
  exact hk57 _ _ _ (r_w (l' := 0) (h' := 6) (r_add (l := 1) (h := 6) h_v57_l9 (r_n (x := (1 : Int32)) (l := 1) (h := 1) (by decide) (by decide)) (by decide) (by decide) (by decide) (by decide)) (by decide) (by decide)) h_v100_l6 (ms_up (y := (1 : Int32)) h_v57_l9 (by decide) (by decide) (by decide) hm57)
theorem t_f_X12_likeliest_L57 {m_t : TX12_t} {m_v : TX12_v} {q_q : TX11_q} {o42 : Int32} (h_q_q_1 : R32 (2) (8) q_q.1) (h_q_q_2_1 : R32 (1) (9) q_q.2.1) (h_q_q_2_2_2_2_1 : R32 (1) (4) q_q.2.2.2.2.1) (h_q_q_2_2_2_2_2_1 : R32 (0) (5) q_q.2.2.2.2.2.1) (h_q_q_2_2_2_2_2_2_1 : R32 (0) (6) q_q.2.2.2.2.2.2.1) (h_q_q_2_2_2_2_2_2_2_1 : R32 (0) (6) q_q.2.2.2.2.2.2.2.1) (h_o42 : R32 (0) (287) o42) : ∀ (n : Nat) (v57_l9 : Int32) (v57_l7 : Int64) (v57_l6 : Int32), R32 (0) (6) v57_l9 → R32 (-2) (5) v57_l6 → (6 : Int) - v57_l9.toInt < (n : Int) → TotP (f_X12_likeliest_L57 m_t m_v q_q o42 n v57_l9 v57_l7 v57_l6) (fun (r : Int32 × TX12_t) => R32 (-2) (5) r.1 ∧ R32 (0) (0) r.2.1 ∧ R32 (0) (2) r.2.2.1 ∧ R32 (-1) (-1) r.2.2.2) := by
  intro n
  induction n with
  | zero =>
    intro v57_l9 v57_l7 v57_l6 h_v57_l9 h_v57_l6 hm
    exact (ms_0u h_v57_l9 hm).elim
  | succ n ih =>
    intro v57_l9 v57_l7 v57_l6 h_v57_l9 h_v57_l6 hm
    rw [f_X12_likeliest_L57]
    refine tp_if (fun c1 => ?_) (fun c1 => ?_)
    · skip
      refine tp_e (f_X12_good.eq_1 _ _) ?_
      refine tp_nl ?_
      exact tp_s ⟨h_v57_l6, (r_n (x := (0 : Int32)) (l := 0) (h := 0) (by decide) (by decide)), (r_w (l' := 0) (h' := 2) (r_n (x := (0 : Int32)) (l := 0) (h := 0) (by decide) (by decide)) (by decide) (by decide)), (r_n (x := (-1 : Int32)) (l := -1) (h := -1) (by decide) (by decide))⟩
    · skip
      have r2 : R32 (1) (6) q_q.2.2.2.2.2.2.1 := r_nle1 (by decide) h_q_q_2_2_2_2_2_2_1 h_v57_l9 c1
      have r3 : R32 (0) (5) v57_l9 := r_nle2 (by decide) h_q_q_2_2_2_2_2_2_1 h_v57_l9 c1
      refine tp_b (t_f_X12_oddsOf r3 (r_w (l' := -1) (h' := 287) h_o42 (by decide) (by decide)) h_q_q_1 h_q_q_2_1 h_q_q_2_2_2_2_1 h_q_q_2_2_2_2_2_1 r2 h_q_q_2_2_2_2_2_2_2_1) (fun o74 h4 => ?_)
      refine tp_if (fun c5 => ?_) (fun c5 => ?_)
      · skip
        have r6 : R32 (1) (2147483647) (lg_cmp o74 v57_l7) := r_lt2 (by decide) (r_n (x := (0 : Int32)) (l := 0) (h := 0) (by decide) (by decide)) (r_top _) c5
        refine tp_b (t_f_X12_oddsOf r3 (r_w (l' := -1) (h' := 287) h_o42 (by decide) (by decide)) h_q_q_1 h_q_q_2_1 h_q_q_2_2_2_2_1 h_q_q_2_2_2_2_2_1 r2 h_q_q_2_2_2_2_2_2_2_1) (fun o91 h7 => ?_)
        exact t_f_X12_likeliest_J100 ih hm r3 (r_w (l' := -2) (h' := 5) r3 (by decide) (by decide))
      · skip
        have r8 : R32 (-2147483648) (0) (lg_cmp o74 v57_l7) := r_nlt2 (r_n (x := (0 : Int32)) (l := 0) (h := 0) (by decide) (by decide)) (r_top _) c5
        exact t_f_X12_likeliest_J100 ih hm r3 h_v57_l6
theorem t_f_X12_likeliest {k1 : Int32} {k2 : Int32} {k3 : Int32} {m_t : TX12_t} {m_v : TX12_v} {q_q : TX11_q} (h_q_q_1 : R32 (2) (8) q_q.1) (h_q_q_2_1 : R32 (1) (9) q_q.2.1) (h_q_q_2_2_2_2_1 : R32 (1) (4) q_q.2.2.2.2.1) (h_q_q_2_2_2_2_2_1 : R32 (0) (5) q_q.2.2.2.2.2.1) (h_q_q_2_2_2_2_2_2_1 : R32 (0) (6) q_q.2.2.2.2.2.2.1) (h_q_q_2_2_2_2_2_2_2_1 : R32 (0) (6) q_q.2.2.2.2.2.2.2.1) : TotP (f_X12_likeliest k1 k2 k3 m_t m_v q_q) (fun (r : Int32 × TX12_t) => R32 (-2) (5) r.1 ∧ R32 (0) (0) r.2.1 ∧ R32 (0) (2) r.2.2.1 ∧ R32 (-1) (-1) r.2.2.2) := by
  unfold f_X12_likeliest
  refine tp_e (f_X12_refusesQuestion.eq_1 _ _ _ _ _) ?_
  refine tp_niff (d_ne2 (r_n (x := (1 : Int32)) (l := 1) (h := 1) (by decide) (by decide)) (r_n (x := (0 : Int32)) (l := 0) (h := 0) (by decide) (by decide)) (by decide)) ?_
  refine tp_nn ?_
  refine tp_e (f_X12_in.eq_1 _ _ _) ?_
  refine tp_nif (fun c1 => ?_) (fun c1 => ?_)
  · skip
    have r2 : R32 (-2147483648) (-1) k1 := r_lt1 (by decide) (r_top _) (r_n (x := (0 : Int32)) (l := 0) (h := 0) (by decide) (by decide)) c1
    refine tp_nl ?_
    refine tp_nift (d_eq (r_n (x := (0 : Int32)) (l := 0) (h := 0) (by decide) (by decide)) (r_n (x := (0 : Int32)) (l := 0) (h := 0) (by decide) (by decide))) ?_
    refine tp_nl ?_
    refine tp_iff (d_nle (r_n (x := (1 : Int32)) (l := 1) (h := 1) (by decide) (by decide)) (r_n (x := (0 : Int32)) (l := 0) (h := 0) (by decide) (by decide)) (by decide)) ?_
    refine tp_e (f_X12_refused.eq_1 _ _) ?_
    refine tp_nl ?_
    exact tp_s ⟨(r_w (l' := -2) (h' := 5) (r_n (x := (-1 : Int32)) (l := -1) (h := -1) (by decide) (by decide)) (by decide) (by decide)), (r_n (x := (0 : Int32)) (l := 0) (h := 0) (by decide) (by decide)), (r_w (l' := 0) (h' := 2) (r_n (x := (1 : Int32)) (l := 1) (h := 1) (by decide) (by decide)) (by decide) (by decide)), (r_n (x := (-1 : Int32)) (l := -1) (h := -1) (by decide) (by decide))⟩
  · skip
    have r3 : R32 (0) (2147483647) k1 := r_nlt1 (r_top _) (r_n (x := (0 : Int32)) (l := 0) (h := 0) (by decide) (by decide)) c1
    refine tp_nif (fun c4 => ?_) (fun c4 => ?_)
    · skip
      have r5 : R32 (2) (2147483647) k1 := r_lt2 (by decide) (r_sub (l := 1) (h := 7) h_q_q_1 (r_n (x := (1 : Int32)) (l := 1) (h := 1) (by decide) (by decide)) (by decide) (by decide) (by decide) (by decide)) r3 c4
      refine tp_nl ?_
      refine tp_nift (d_eq (r_n (x := (0 : Int32)) (l := 0) (h := 0) (by decide) (by decide)) (r_n (x := (0 : Int32)) (l := 0) (h := 0) (by decide) (by decide))) ?_
      refine tp_nl ?_
      refine tp_iff (d_nle (r_n (x := (1 : Int32)) (l := 1) (h := 1) (by decide) (by decide)) (r_n (x := (0 : Int32)) (l := 0) (h := 0) (by decide) (by decide)) (by decide)) ?_
      refine tp_e (f_X12_refused.eq_1 _ _) ?_
      refine tp_nl ?_
      exact tp_s ⟨(r_w (l' := -2) (h' := 5) (r_n (x := (-1 : Int32)) (l := -1) (h := -1) (by decide) (by decide)) (by decide) (by decide)), (r_n (x := (0 : Int32)) (l := 0) (h := 0) (by decide) (by decide)), (r_w (l' := 0) (h' := 2) (r_n (x := (1 : Int32)) (l := 1) (h := 1) (by decide) (by decide)) (by decide) (by decide)), (r_n (x := (-1 : Int32)) (l := -1) (h := -1) (by decide) (by decide))⟩
    · skip
      have r6 : R32 (0) (7) k1 := r_nlt2 (r_sub (l := 1) (h := 7) h_q_q_1 (r_n (x := (1 : Int32)) (l := 1) (h := 1) (by decide) (by decide)) (by decide) (by decide) (by decide) (by decide)) r3 c4
      refine tp_nl ?_
      refine tp_niff (d_ne2 (r_n (x := (1 : Int32)) (l := 1) (h := 1) (by decide) (by decide)) (r_n (x := (0 : Int32)) (l := 0) (h := 0) (by decide) (by decide)) (by decide)) ?_
      refine tp_nn ?_
      refine tp_e (f_X12_in.eq_1 _ _ _) ?_
      refine tp_nif (fun c7 => ?_) (fun c7 => ?_)
      · skip
        have r8 : R32 (-2147483648) (-1) k3 := r_lt1 (by decide) (r_top _) (r_n (x := (0 : Int32)) (l := 0) (h := 0) (by decide) (by decide)) c7
        refine tp_nl ?_
        refine tp_nift (d_eq (r_n (x := (0 : Int32)) (l := 0) (h := 0) (by decide) (by decide)) (r_n (x := (0 : Int32)) (l := 0) (h := 0) (by decide) (by decide))) ?_
        refine tp_nl ?_
        refine tp_iff (d_nle (r_n (x := (1 : Int32)) (l := 1) (h := 1) (by decide) (by decide)) (r_n (x := (0 : Int32)) (l := 0) (h := 0) (by decide) (by decide)) (by decide)) ?_
        refine tp_e (f_X12_refused.eq_1 _ _) ?_
        refine tp_nl ?_
        exact tp_s ⟨(r_w (l' := -2) (h' := 5) (r_n (x := (-1 : Int32)) (l := -1) (h := -1) (by decide) (by decide)) (by decide) (by decide)), (r_n (x := (0 : Int32)) (l := 0) (h := 0) (by decide) (by decide)), (r_w (l' := 0) (h' := 2) (r_n (x := (1 : Int32)) (l := 1) (h := 1) (by decide) (by decide)) (by decide) (by decide)), (r_n (x := (-1 : Int32)) (l := -1) (h := -1) (by decide) (by decide))⟩
      · skip
        have r9 : R32 (0) (2147483647) k3 := r_nlt1 (r_top _) (r_n (x := (0 : Int32)) (l := 0) (h := 0) (by decide) (by decide)) c7
        refine tp_nif (fun c10 => ?_) (fun c10 => ?_)
        · skip
          have r11 : R32 (1) (2147483647) k3 := r_lt2 (by decide) (r_sub (l := 0) (h := 3) h_q_q_2_2_2_2_1 (r_n (x := (1 : Int32)) (l := 1) (h := 1) (by decide) (by decide)) (by decide) (by decide) (by decide) (by decide)) r9 c10
          refine tp_nl ?_
          refine tp_nift (d_eq (r_n (x := (0 : Int32)) (l := 0) (h := 0) (by decide) (by decide)) (r_n (x := (0 : Int32)) (l := 0) (h := 0) (by decide) (by decide))) ?_
          refine tp_nl ?_
          refine tp_iff (d_nle (r_n (x := (1 : Int32)) (l := 1) (h := 1) (by decide) (by decide)) (r_n (x := (0 : Int32)) (l := 0) (h := 0) (by decide) (by decide)) (by decide)) ?_
          refine tp_e (f_X12_refused.eq_1 _ _) ?_
          refine tp_nl ?_
          exact tp_s ⟨(r_w (l' := -2) (h' := 5) (r_n (x := (-1 : Int32)) (l := -1) (h := -1) (by decide) (by decide)) (by decide) (by decide)), (r_n (x := (0 : Int32)) (l := 0) (h := 0) (by decide) (by decide)), (r_w (l' := 0) (h' := 2) (r_n (x := (1 : Int32)) (l := 1) (h := 1) (by decide) (by decide)) (by decide) (by decide)), (r_n (x := (-1 : Int32)) (l := -1) (h := -1) (by decide) (by decide))⟩
        · skip
          have r12 : R32 (0) (3) k3 := r_nlt2 (r_sub (l := 0) (h := 3) h_q_q_2_2_2_2_1 (r_n (x := (1 : Int32)) (l := 1) (h := 1) (by decide) (by decide)) (by decide) (by decide) (by decide) (by decide)) r9 c10
          refine tp_nl ?_
          refine tp_niff (d_ne2 (r_n (x := (1 : Int32)) (l := 1) (h := 1) (by decide) (by decide)) (r_n (x := (0 : Int32)) (l := 0) (h := 0) (by decide) (by decide)) (by decide)) ?_
          refine tp_nn ?_
          refine tp_e (f_X12_in.eq_1 _ _ _) ?_
          refine tp_nif (fun c13 => ?_) (fun c13 => ?_)
          · skip
            have r14 : R32 (-2147483648) (0) k2 := r_lt1 (by decide) (r_top _) (r_n (x := (1 : Int32)) (l := 1) (h := 1) (by decide) (by decide)) c13
            refine tp_nl ?_
            refine tp_nift (d_eq (r_n (x := (0 : Int32)) (l := 0) (h := 0) (by decide) (by decide)) (r_n (x := (0 : Int32)) (l := 0) (h := 0) (by decide) (by decide))) ?_
            refine tp_nl ?_
            refine tp_iff (d_nle (r_n (x := (2 : Int32)) (l := 2) (h := 2) (by decide) (by decide)) (r_n (x := (0 : Int32)) (l := 0) (h := 0) (by decide) (by decide)) (by decide)) ?_
            refine tp_e (f_X12_refused.eq_1 _ _) ?_
            refine tp_nl ?_
            exact tp_s ⟨(r_w (l' := -2) (h' := 5) (r_n (x := (-1 : Int32)) (l := -1) (h := -1) (by decide) (by decide)) (by decide) (by decide)), (r_n (x := (0 : Int32)) (l := 0) (h := 0) (by decide) (by decide)), (r_w (l' := 0) (h' := 2) (r_n (x := (2 : Int32)) (l := 2) (h := 2) (by decide) (by decide)) (by decide) (by decide)), (r_n (x := (-1 : Int32)) (l := -1) (h := -1) (by decide) (by decide))⟩
          · skip
            have r15 : R32 (1) (2147483647) k2 := r_nlt1 (r_top _) (r_n (x := (1 : Int32)) (l := 1) (h := 1) (by decide) (by decide)) c13
            refine tp_nif (fun c16 => ?_) (fun c16 => ?_)
            · skip
              have r17 : R32 (2) (2147483647) k2 := r_lt2 (by decide) h_q_q_2_1 r15 c16
              refine tp_nl ?_
              refine tp_nift (d_eq (r_n (x := (0 : Int32)) (l := 0) (h := 0) (by decide) (by decide)) (r_n (x := (0 : Int32)) (l := 0) (h := 0) (by decide) (by decide))) ?_
              refine tp_nl ?_
              refine tp_iff (d_nle (r_n (x := (2 : Int32)) (l := 2) (h := 2) (by decide) (by decide)) (r_n (x := (0 : Int32)) (l := 0) (h := 0) (by decide) (by decide)) (by decide)) ?_
              refine tp_e (f_X12_refused.eq_1 _ _) ?_
              refine tp_nl ?_
              exact tp_s ⟨(r_w (l' := -2) (h' := 5) (r_n (x := (-1 : Int32)) (l := -1) (h := -1) (by decide) (by decide)) (by decide) (by decide)), (r_n (x := (0 : Int32)) (l := 0) (h := 0) (by decide) (by decide)), (r_w (l' := 0) (h' := 2) (r_n (x := (2 : Int32)) (l := 2) (h := 2) (by decide) (by decide)) (by decide) (by decide)), (r_n (x := (-1 : Int32)) (l := -1) (h := -1) (by decide) (by decide))⟩
            · skip
              have r18 : R32 (1) (9) k2 := r_nlt2 h_q_q_2_1 r15 c16
              refine tp_nl ?_
              refine tp_niff (d_ne2 (r_n (x := (1 : Int32)) (l := 1) (h := 1) (by decide) (by decide)) (r_n (x := (0 : Int32)) (l := 0) (h := 0) (by decide) (by decide)) (by decide)) ?_
              refine tp_nl ?_
              refine tp_ift (d_le (r_n (x := (0 : Int32)) (l := 0) (h := 0) (by decide) (by decide)) (r_n (x := (0 : Int32)) (l := 0) (h := 0) (by decide) (by decide)) (by decide)) ?_
              refine tp_e (f_X12_question.eq_1 _ _ _ _) ?_
              refine tp_nn ?_
              refine tp_n (P := fun z => R32 (0) (287) z) (r_add (l := 0) (h := 287) (r_mul (l := 0) (h := 284) (r_sub (l := 0) (h := 71) (r_add (l := 1) (h := 72) (r_mul (l := 0) (h := 63) r6 h_q_q_2_1 (by decide) (by decide) (by decide) (by decide) (by decide)) r18 (by decide) (by decide) (by decide) (by decide)) (r_n (x := (1 : Int32)) (l := 1) (h := 1) (by decide) (by decide)) (by decide) (by decide) (by decide) (by decide)) h_q_q_2_2_2_2_1 (by decide) (by decide) (by decide) (by decide) (by decide)) r12 (by decide) (by decide) (by decide) (by decide)) (fun z22 h19 => ?_)
              refine tp_nl ?_
              exact t_f_X12_likeliest_L57 h_q_q_1 h_q_q_2_1 h_q_q_2_2_2_2_1 h_q_q_2_2_2_2_2_1 h_q_q_2_2_2_2_2_2_1 h_q_q_2_2_2_2_2_2_2_1 h19 FU _ _ _ (r_w (l' := 0) (h' := 6) (r_n (x := (0 : Int32)) (l := 0) (h := 0) (by decide) (by decide)) (by decide) (by decide)) (r_w (l' := -2) (h' := 5) (r_n (x := (-2 : Int32)) (l := -2) (h := -2) (by decide) (by decide)) (by decide) (by decide)) (fu_up (r_w (l' := 0) (h' := 6) (r_n (x := (0 : Int32)) (l := 0) (h := 0) (by decide) (by decide)) (by decide) (by decide)) (by decide))
theorem t_f_X12_sureQuestion_J46 {k8_ : Int32 → Int64 → Int32 → Option Int32} {v8_l5 : Int32} {v46_l2 : Int32} {v46_l3 : Int64} {N8 : Nat} (hk8 : ∀ (v8_l5 : Int32) (v8_l3 : Int64) (v8_l2 : Int32), R32 (0) (288) v8_l5 → R32 (-2) (287) v8_l2 → (288 : Int) - v8_l5.toInt < (N8 : Nat) → TotP (k8_ v8_l5 v8_l3 v8_l2) (fun (r : Int32) => R32 (-2) (287) r)) (hm8 : (288 : Int) - v8_l5.toInt < ((N8 + 1 : Nat) : Int)) (h_v8_l5 : R32 (0) (287) v8_l5) (h_v46_l2 : R32 (-2) (287) v46_l2) : TotP (f_X12_sureQuestion_J46 k8_ v8_l5 v46_l2 v46_l3) (fun (r : Int32) => R32 (-2) (287) r) := by
  unfold f_X12_sureQuestion_J46
  exact hk8 _ _ _ (r_w (l' := 0) (h' := 288) (r_add (l := 1) (h := 288) h_v8_l5 (r_n (x := (1 : Int32)) (l := 1) (h := 1) (by decide) (by decide)) (by decide) (by decide) (by decide) (by decide)) (by decide) (by decide)) h_v46_l2 (ms_up (y := (1 : Int32)) h_v8_l5 (by decide) (by decide) (by decide) hm8)
theorem t_f_X12_sureQuestion_L8 {k1 : Int32} {m_v : TX12_v} {q_q : TX11_q} (h_k1 : R32 (0) (5) k1) (h_q_q_1 : R32 (2) (8) q_q.1) (h_q_q_2_1 : R32 (1) (9) q_q.2.1) (h_q_q_2_2_2_2_1 : R32 (1) (4) q_q.2.2.2.2.1) (h_q_q_2_2_2_2_2_1 : R32 (0) (5) q_q.2.2.2.2.2.1) (h_q_q_2_2_2_2_2_2_1 : R32 (1) (6) q_q.2.2.2.2.2.2.1) (h_q_q_2_2_2_2_2_2_2_1 : R32 (0) (6) q_q.2.2.2.2.2.2.2.1) : ∀ (n : Nat) (v8_l5 : Int32) (v8_l3 : Int64) (v8_l2 : Int32), R32 (0) (288) v8_l5 → R32 (-2) (287) v8_l2 → (288 : Int) - v8_l5.toInt < (n : Int) → TotP (f_X12_sureQuestion_L8 k1 m_v q_q n v8_l5 v8_l3 v8_l2) (fun (r : Int32) => R32 (-2) (287) r) := by
  intro n
  induction n with
  | zero =>
    intro v8_l5 v8_l3 v8_l2 h_v8_l5 h_v8_l2 hm
    exact (ms_0u h_v8_l5 hm).elim
  | succ n ih =>
    intro v8_l5 v8_l3 v8_l2 h_v8_l5 h_v8_l2 hm
    rw [f_X12_sureQuestion_L8]
    refine tp_e (f_X11_questions.eq_1 _) ?_
    refine tp_n (P := fun z => R32 (2) (288) z) (r_mul (l := 2) (h := 288) (r_mul (l := 2) (h := 72) h_q_q_1 h_q_q_2_1 (by decide) (by decide) (by decide) (by decide) (by decide)) h_q_q_2_2_2_2_1 (by decide) (by decide) (by decide) (by decide) (by decide)) (fun o14 h1 => ?_)
    refine tp_if (fun c2 => ?_) (fun c2 => ?_)
    · skip
      have r3 : R32 (2) (288) v8_l5 := r_le2 h1 h_v8_l5 c2
      exact tp_s h_v8_l2
    · skip
      have r4 : R32 (0) (287) v8_l5 := r_nle2 (by decide) h1 h_v8_l5 c2
      refine tp_b (t_f_X12_oddsOf h_k1 (r_w (l' := -1) (h' := 287) r4 (by decide) (by decide)) h_q_q_1 h_q_q_2_1 h_q_q_2_2_2_2_1 h_q_q_2_2_2_2_2_1 h_q_q_2_2_2_2_2_2_1 h_q_q_2_2_2_2_2_2_2_1) (fun o24 h5 => ?_)
      refine tp_if (fun c6 => ?_) (fun c6 => ?_)
      · skip
        have r7 : R32 (1) (2147483647) (lg_cmp o24 v8_l3) := r_lt2 (by decide) (r_n (x := (0 : Int32)) (l := 0) (h := 0) (by decide) (by decide)) (r_top _) c6
        refine tp_b (t_f_X12_oddsOf h_k1 (r_w (l' := -1) (h' := 287) r4 (by decide) (by decide)) h_q_q_1 h_q_q_2_1 h_q_q_2_2_2_2_1 h_q_q_2_2_2_2_2_1 h_q_q_2_2_2_2_2_2_1 h_q_q_2_2_2_2_2_2_2_1) (fun o39 h8 => ?_)
        exact t_f_X12_sureQuestion_J46 ih hm r4 (r_w (l' := -2) (h' := 287) r4 (by decide) (by decide))
      · skip
        have r9 : R32 (-2147483648) (0) (lg_cmp o24 v8_l3) := r_nlt2 (r_n (x := (0 : Int32)) (l := 0) (h := 0) (by decide) (by decide)) (r_top _) c6
        exact t_f_X12_sureQuestion_J46 ih hm r4 h_v8_l2
theorem t_f_X12_sureQuestion {k1 : Int32} {m_v : TX12_v} {q_q : TX11_q} (h_k1 : R32 (0) (5) k1) (h_q_q_1 : R32 (2) (8) q_q.1) (h_q_q_2_1 : R32 (1) (9) q_q.2.1) (h_q_q_2_2_2_2_1 : R32 (1) (4) q_q.2.2.2.2.1) (h_q_q_2_2_2_2_2_1 : R32 (0) (5) q_q.2.2.2.2.2.1) (h_q_q_2_2_2_2_2_2_1 : R32 (1) (6) q_q.2.2.2.2.2.2.1) (h_q_q_2_2_2_2_2_2_2_1 : R32 (0) (6) q_q.2.2.2.2.2.2.2.1) : TotP (f_X12_sureQuestion k1 m_v q_q) (fun (r : Int32) => R32 (-2) (287) r) := by
  unfold f_X12_sureQuestion
  exact t_f_X12_sureQuestion_L8 h_k1 h_q_q_1 h_q_q_2_1 h_q_q_2_2_2_2_1 h_q_q_2_2_2_2_2_1 h_q_q_2_2_2_2_2_2_1 h_q_q_2_2_2_2_2_2_2_1 FU _ _ _ (r_w (l' := 0) (h' := 288) (r_n (x := (0 : Int32)) (l := 0) (h := 0) (by decide) (by decide)) (by decide) (by decide)) (r_w (l' := -2) (h' := 287) (r_n (x := (-2 : Int32)) (l := -2) (h := -2) (by decide) (by decide)) (by decide) (by decide)) (fu_up (r_w (l' := 0) (h' := 288) (r_n (x := (0 : Int32)) (l := 0) (h := 0) (by decide) (by decide)) (by decide) (by decide)) (by decide))
theorem t_f_X12_codeOf {k1 : Int32} {q_q : TX11_q} (h_k1 : R32 (-1) (287) k1) (h_q_q_1 : R32 (2) (8) q_q.1) (h_q_q_2_1 : R32 (1) (9) q_q.2.1) (h_q_q_2_2_2_2_1 : R32 (1) (4) q_q.2.2.2.2.1) (h_q_q_2_2_2_2_2_1 : R32 (0) (5) q_q.2.2.2.2.2.1) (h_q_q_2_2_2_2_2_2_1 : R32 (0) (6) q_q.2.2.2.2.2.2.1) (h_q_q_2_2_2_2_2_2_2_1 : R32 (0) (6) q_q.2.2.2.2.2.2.2.1) : TotP (f_X12_codeOf k1 q_q) (fun (r : Int32) => True) := by
  unfold f_X12_codeOf
  refine tp_b (t_f_X12_spotOf h_q_q_1 h_q_q_2_1 h_q_q_2_2_2_2_1 h_q_q_2_2_2_2_2_1 h_q_q_2_2_2_2_2_2_1 h_q_q_2_2_2_2_2_2_2_1) (fun o4 h1 => ?_)
  refine tp_b (t_f_X12_fathomsOf h_q_q_1 h_q_q_2_1 h_q_q_2_2_2_2_1 h_q_q_2_2_2_2_2_1 h_q_q_2_2_2_2_2_2_1 h_q_q_2_2_2_2_2_2_2_1) (fun o12 h2 => ?_)
  refine tp_b (t_f_X12_baitOf h_q_q_1 h_q_q_2_1 h_q_q_2_2_2_2_1 h_q_q_2_2_2_2_2_1 h_q_q_2_2_2_2_2_2_1 h_q_q_2_2_2_2_2_2_2_1) (fun o19 h3 => ?_)
  exact tp_s trivial
theorem t_f_X12_surest_J44 {m_t : TX12_t} {v44_t1 : Int32} : TotP (f_X12_surest_J44 m_t v44_t1) (fun (r : Int32 × TX12_t) => R32 (0) (0) r.2.1 ∧ R32 (0) (5) r.2.2.1 ∧ R32 (-1) (-1) r.2.2.2) := by
  unfold f_X12_surest_J44
  refine tp_e (f_X12_good.eq_1 _ _) ?_
  refine tp_nl ?_
  exact tp_s ⟨(r_n (x := (0 : Int32)) (l := 0) (h := 0) (by decide) (by decide)), (r_w (l' := 0) (h' := 5) (r_n (x := (0 : Int32)) (l := 0) (h := 0) (by decide) (by decide)) (by decide) (by decide)), (r_n (x := (-1 : Int32)) (l := -1) (h := -1) (by decide) (by decide))⟩
theorem t_f_X12_surest {k1 : Int32} {m_t : TX12_t} {m_v : TX12_v} {q_q : TX11_q} (h_q_q_1 : R32 (2) (8) q_q.1) (h_q_q_2_1 : R32 (1) (9) q_q.2.1) (h_q_q_2_2_2_2_1 : R32 (1) (4) q_q.2.2.2.2.1) (h_q_q_2_2_2_2_2_1 : R32 (0) (5) q_q.2.2.2.2.2.1) (h_q_q_2_2_2_2_2_2_1 : R32 (0) (6) q_q.2.2.2.2.2.2.1) (h_q_q_2_2_2_2_2_2_2_1 : R32 (0) (6) q_q.2.2.2.2.2.2.2.1) : TotP (f_X12_surest k1 m_t m_v q_q) (fun (r : Int32 × TX12_t) => R32 (0) (0) r.2.1 ∧ R32 (0) (5) r.2.2.1 ∧ R32 (-1) (-1) r.2.2.2) := by
  unfold f_X12_surest
  refine tp_bu (f_X12_refusesSure.eq_1 _ _ _) ?_
  refine tp_bn ?_
  refine tp_e (f_X12_isAnswer.eq_1 _ _) ?_
  refine tp_nif (fun c1 => ?_) (fun c1 => ?_)
  · skip
    have r2 : R32 (-2147483648) (-1) k1 := r_lt1 (by decide) (r_top _) (r_n (x := (0 : Int32)) (l := 0) (h := 0) (by decide) (by decide)) c1
    refine tp_nl ?_
    refine tp_bift (d_eq (r_n (x := (0 : Int32)) (l := 0) (h := 0) (by decide) (by decide)) (r_n (x := (0 : Int32)) (l := 0) (h := 0) (by decide) (by decide))) ?_
    refine tp_bs ?_
    refine tp_iff (d_nle (r_n (x := (1 : Int32)) (l := 1) (h := 1) (by decide) (by decide)) (r_n (x := (0 : Int32)) (l := 0) (h := 0) (by decide) (by decide)) (by decide)) ?_
    refine tp_e (f_X12_refused.eq_1 _ _) ?_
    refine tp_nl ?_
    exact tp_s ⟨(r_n (x := (0 : Int32)) (l := 0) (h := 0) (by decide) (by decide)), (r_w (l' := 0) (h' := 5) (r_n (x := (1 : Int32)) (l := 1) (h := 1) (by decide) (by decide)) (by decide) (by decide)), (r_n (x := (-1 : Int32)) (l := -1) (h := -1) (by decide) (by decide))⟩
  · skip
    have r3 : R32 (0) (2147483647) k1 := r_nlt1 (r_top _) (r_n (x := (0 : Int32)) (l := 0) (h := 0) (by decide) (by decide)) c1
    refine tp_nif (fun c4 => ?_) (fun c4 => ?_)
    · skip
      refine tp_nl ?_
      refine tp_bift (d_eq (r_n (x := (0 : Int32)) (l := 0) (h := 0) (by decide) (by decide)) (r_n (x := (0 : Int32)) (l := 0) (h := 0) (by decide) (by decide))) ?_
      refine tp_bs ?_
      refine tp_iff (d_nle (r_n (x := (1 : Int32)) (l := 1) (h := 1) (by decide) (by decide)) (r_n (x := (0 : Int32)) (l := 0) (h := 0) (by decide) (by decide)) (by decide)) ?_
      refine tp_e (f_X12_refused.eq_1 _ _) ?_
      refine tp_nl ?_
      exact tp_s ⟨(r_n (x := (0 : Int32)) (l := 0) (h := 0) (by decide) (by decide)), (r_w (l' := 0) (h' := 5) (r_n (x := (1 : Int32)) (l := 1) (h := 1) (by decide) (by decide)) (by decide) (by decide)), (r_n (x := (-1 : Int32)) (l := -1) (h := -1) (by decide) (by decide))⟩
    · skip
      have r5 : R32 (1) (6) q_q.2.2.2.2.2.2.1 := r_nle1 (by decide) h_q_q_2_2_2_2_2_2_1 r3 c4
      have r6 : R32 (0) (5) k1 := r_nle2 (by decide) h_q_q_2_2_2_2_2_2_1 r3 c4
      refine tp_nl ?_
      refine tp_biff (d_ne2 (r_n (x := (1 : Int32)) (l := 1) (h := 1) (by decide) (by decide)) (r_n (x := (0 : Int32)) (l := 0) (h := 0) (by decide) (by decide)) (by decide)) ?_
      refine tp_bg (r_add (l := 0) (h := 5) (r_n (x := (0 : Int32)) (l := 0) (h := 0) (by decide) (by decide)) r6 (by decide) (by decide) (by decide) (by decide)) (by decide) (by decide) ?_
      refine tp_bif (fun c7 => ?_) (fun c7 => ?_)
      · skip
        have r8 : R32 (0) (0) (m_v (((0 : Int32) + k1)).toNatClampNeg) := r_eq1 (l := 0) (h := 0) (by decide) (by decide) (r_top _) (r_n (x := (0 : Int32)) (l := 0) (h := 0) (by decide) (by decide)) c7
        refine tp_bs ?_
        refine tp_ift (d_le (r_n (x := (0 : Int32)) (l := 0) (h := 0) (by decide) (by decide)) (r_n (x := (0 : Int32)) (l := 0) (h := 0) (by decide) (by decide)) (by decide)) ?_
        refine tp_b (t_f_X12_sureQuestion r6 h_q_q_1 h_q_q_2_1 h_q_q_2_2_2_2_1 h_q_q_2_2_2_2_2_1 r5 h_q_q_2_2_2_2_2_2_2_1) (fun o23 h9 => ?_)
        refine tp_if (fun c10 => ?_) (fun c10 => ?_)
        · skip
          have r11 : R32 (-2) (-2) o23 := r_eq1 (l := -2) (h := -2) (by decide) (by decide) h9 (r_n (x := (-2 : Int32)) (l := -2) (h := -2) (by decide) (by decide)) c10
          exact t_f_X12_surest_J44 
        · skip
          have r12 : R32 (-1) (287) o23 := r_neL (by decide) h9 (r_n (x := (-2 : Int32)) (l := -2) (h := -2) (by decide) (by decide)) c10
          refine tp_b (t_f_X12_codeOf r12 h_q_q_1 h_q_q_2_1 h_q_q_2_2_2_2_1 h_q_q_2_2_2_2_2_1 (r_w (l' := 0) (h' := 6) r5 (by decide) (by decide)) h_q_q_2_2_2_2_2_2_2_1) (fun o41 h13 => ?_)
          exact t_f_X12_surest_J44 
      · skip
        refine tp_bs ?_
        refine tp_iff (d_nle (r_n (x := (5 : Int32)) (l := 5) (h := 5) (by decide) (by decide)) (r_n (x := (0 : Int32)) (l := 0) (h := 0) (by decide) (by decide)) (by decide)) ?_
        refine tp_e (f_X12_refused.eq_1 _ _) ?_
        refine tp_nl ?_
        exact tp_s ⟨(r_n (x := (0 : Int32)) (l := 0) (h := 0) (by decide) (by decide)), (r_w (l' := 0) (h' := 5) (r_n (x := (5 : Int32)) (l := 5) (h := 5) (by decide) (by decide)) (by decide) (by decide)), (r_n (x := (-1 : Int32)) (l := -1) (h := -1) (by decide) (by decide))⟩
theorem t_f_X12_surestOdds_J48 {k2 : Int32} {m_t : TX12_t} {m_v : TX12_v} {q_q : TX11_q} {v48_t1 : Int64} (h_q_q_1 : R32 (2) (8) q_q.1) (h_q_q_2_1 : R32 (1) (9) q_q.2.1) (h_q_q_2_2_2_2_1 : R32 (1) (4) q_q.2.2.2.2.1) (h_q_q_2_2_2_2_2_1 : R32 (0) (5) q_q.2.2.2.2.2.1) (h_q_q_2_2_2_2_2_2_1 : R32 (1) (6) q_q.2.2.2.2.2.2.1) (h_q_q_2_2_2_2_2_2_2_1 : R32 (0) (6) q_q.2.2.2.2.2.2.2.1) : TotP (f_X12_surestOdds_J48 k2 m_t m_v q_q v48_t1) (fun (r : Int64 × TX12_t) => R32 (0) (0) r.2.1 ∧ R32 (0) (5) r.2.2.1 ∧ R32 (-1) (-1) r.2.2.2) := by
  unfold f_X12_surestOdds_J48
  refine tp_be (t_f_X12_whole h_q_q_1 h_q_q_2_1 h_q_q_2_2_2_2_1 h_q_q_2_2_2_2_2_1 (r_w (l' := 0) (h' := 6) h_q_q_2_2_2_2_2_2_1 (by decide) (by decide)) h_q_q_2_2_2_2_2_2_2_1) (fun o49 e2 h1 => ?_)
  refine tp_b (t_f_X12_fraction (whole_ne0 (r_w (l' := 0) (h' := 6) h_q_q_2_2_2_2_2_2_1 (by decide) (by decide)) e2) (r_n (x := (0 : Int32)) (l := 0) (h := 0) (by decide) (by decide))) (fun o53 h3 => ?_)
  obtain ⟨r4, r5, r6⟩ := h3
  exact tp_s ⟨r4, (r_w (l' := 0) (h' := 5) r5 (by decide) (by decide)), r6⟩
theorem t_f_X12_surestOdds {k1 : Int32} {k2 : Int32} {m_t : TX12_t} {m_v : TX12_v} {q_q : TX11_q} (h_q_q_1 : R32 (2) (8) q_q.1) (h_q_q_2_1 : R32 (1) (9) q_q.2.1) (h_q_q_2_2_2_2_1 : R32 (1) (4) q_q.2.2.2.2.1) (h_q_q_2_2_2_2_2_1 : R32 (0) (5) q_q.2.2.2.2.2.1) (h_q_q_2_2_2_2_2_2_1 : R32 (0) (6) q_q.2.2.2.2.2.2.1) (h_q_q_2_2_2_2_2_2_2_1 : R32 (0) (6) q_q.2.2.2.2.2.2.2.1) : TotP (f_X12_surestOdds k1 k2 m_t m_v q_q) (fun (r : Int64 × TX12_t) => R32 (0) (0) r.2.1 ∧ R32 (0) (5) r.2.2.1 ∧ R32 (-1) (-1) r.2.2.2) := by
  unfold f_X12_surestOdds
  refine tp_bu (f_X12_refusesSure.eq_1 _ _ _) ?_
  refine tp_bn ?_
  refine tp_e (f_X12_isAnswer.eq_1 _ _) ?_
  refine tp_nif (fun c1 => ?_) (fun c1 => ?_)
  · skip
    have r2 : R32 (-2147483648) (-1) k1 := r_lt1 (by decide) (r_top _) (r_n (x := (0 : Int32)) (l := 0) (h := 0) (by decide) (by decide)) c1
    refine tp_nl ?_
    refine tp_bift (d_eq (r_n (x := (0 : Int32)) (l := 0) (h := 0) (by decide) (by decide)) (r_n (x := (0 : Int32)) (l := 0) (h := 0) (by decide) (by decide))) ?_
    refine tp_bs ?_
    refine tp_iff (d_nle (r_n (x := (1 : Int32)) (l := 1) (h := 1) (by decide) (by decide)) (r_n (x := (0 : Int32)) (l := 0) (h := 0) (by decide) (by decide)) (by decide)) ?_
    refine tp_e (f_X12_refused.eq_1 _ _) ?_
    refine tp_nl ?_
    exact tp_s ⟨(r_n (x := (0 : Int32)) (l := 0) (h := 0) (by decide) (by decide)), (r_w (l' := 0) (h' := 5) (r_n (x := (1 : Int32)) (l := 1) (h := 1) (by decide) (by decide)) (by decide) (by decide)), (r_n (x := (-1 : Int32)) (l := -1) (h := -1) (by decide) (by decide))⟩
  · skip
    have r3 : R32 (0) (2147483647) k1 := r_nlt1 (r_top _) (r_n (x := (0 : Int32)) (l := 0) (h := 0) (by decide) (by decide)) c1
    refine tp_nif (fun c4 => ?_) (fun c4 => ?_)
    · skip
      refine tp_nl ?_
      refine tp_bift (d_eq (r_n (x := (0 : Int32)) (l := 0) (h := 0) (by decide) (by decide)) (r_n (x := (0 : Int32)) (l := 0) (h := 0) (by decide) (by decide))) ?_
      refine tp_bs ?_
      refine tp_iff (d_nle (r_n (x := (1 : Int32)) (l := 1) (h := 1) (by decide) (by decide)) (r_n (x := (0 : Int32)) (l := 0) (h := 0) (by decide) (by decide)) (by decide)) ?_
      refine tp_e (f_X12_refused.eq_1 _ _) ?_
      refine tp_nl ?_
      exact tp_s ⟨(r_n (x := (0 : Int32)) (l := 0) (h := 0) (by decide) (by decide)), (r_w (l' := 0) (h' := 5) (r_n (x := (1 : Int32)) (l := 1) (h := 1) (by decide) (by decide)) (by decide) (by decide)), (r_n (x := (-1 : Int32)) (l := -1) (h := -1) (by decide) (by decide))⟩
    · skip
      have r5 : R32 (1) (6) q_q.2.2.2.2.2.2.1 := r_nle1 (by decide) h_q_q_2_2_2_2_2_2_1 r3 c4
      have r6 : R32 (0) (5) k1 := r_nle2 (by decide) h_q_q_2_2_2_2_2_2_1 r3 c4
      refine tp_nl ?_
      refine tp_biff (d_ne2 (r_n (x := (1 : Int32)) (l := 1) (h := 1) (by decide) (by decide)) (r_n (x := (0 : Int32)) (l := 0) (h := 0) (by decide) (by decide)) (by decide)) ?_
      refine tp_bg (r_add (l := 0) (h := 5) (r_n (x := (0 : Int32)) (l := 0) (h := 0) (by decide) (by decide)) r6 (by decide) (by decide) (by decide) (by decide)) (by decide) (by decide) ?_
      refine tp_bif (fun c7 => ?_) (fun c7 => ?_)
      · skip
        have r8 : R32 (0) (0) (m_v (((0 : Int32) + k1)).toNatClampNeg) := r_eq1 (l := 0) (h := 0) (by decide) (by decide) (r_top _) (r_n (x := (0 : Int32)) (l := 0) (h := 0) (by decide) (by decide)) c7
        refine tp_bs ?_
        refine tp_ift (d_le (r_n (x := (0 : Int32)) (l := 0) (h := 0) (by decide) (by decide)) (r_n (x := (0 : Int32)) (l := 0) (h := 0) (by decide) (by decide)) (by decide)) ?_
        refine tp_b (t_f_X12_sureQuestion r6 h_q_q_1 h_q_q_2_1 h_q_q_2_2_2_2_1 h_q_q_2_2_2_2_2_1 r5 h_q_q_2_2_2_2_2_2_2_1) (fun o24 h9 => ?_)
        refine tp_if (fun c10 => ?_) (fun c10 => ?_)
        · skip
          have r11 : R32 (-2) (-2) o24 := r_eq1 (l := -2) (h := -2) (by decide) (by decide) h9 (r_n (x := (-2 : Int32)) (l := -2) (h := -2) (by decide) (by decide)) c10
          exact t_f_X12_surestOdds_J48 h_q_q_1 h_q_q_2_1 h_q_q_2_2_2_2_1 h_q_q_2_2_2_2_2_1 r5 h_q_q_2_2_2_2_2_2_2_1
        · skip
          have r12 : R32 (-1) (287) o24 := r_neL (by decide) h9 (r_n (x := (-2 : Int32)) (l := -2) (h := -2) (by decide) (by decide)) c10
          refine tp_b (t_f_X12_oddsOf r6 r12 h_q_q_1 h_q_q_2_1 h_q_q_2_2_2_2_1 h_q_q_2_2_2_2_2_1 r5 h_q_q_2_2_2_2_2_2_2_1) (fun o45 h13 => ?_)
          exact t_f_X12_surestOdds_J48 h_q_q_1 h_q_q_2_1 h_q_q_2_2_2_2_1 h_q_q_2_2_2_2_2_1 r5 h_q_q_2_2_2_2_2_2_2_1
      · skip
        refine tp_bs ?_
        refine tp_iff (d_nle (r_n (x := (5 : Int32)) (l := 5) (h := 5) (by decide) (by decide)) (r_n (x := (0 : Int32)) (l := 0) (h := 0) (by decide) (by decide)) (by decide)) ?_
        refine tp_e (f_X12_refused.eq_1 _ _) ?_
        refine tp_nl ?_
        exact tp_s ⟨(r_n (x := (0 : Int32)) (l := 0) (h := 0) (by decide) (by decide)), (r_w (l' := 0) (h' := 5) (r_n (x := (5 : Int32)) (l := 5) (h := 5) (by decide) (by decide)) (by decide) (by decide)), (r_n (x := (-1 : Int32)) (l := -1) (h := -1) (by decide) (by decide))⟩
theorem t_f_X12_best_J62 {k26_ : Int32 → Int64 → Int32 → Option (Int32 × TX12_t)} {v26_l4 : Int32} {v62_l1 : Int32} {v62_l2 : Int64} {N26 : Nat} (hk26 : ∀ (v26_l4 : Int32) (v26_l2 : Int64) (v26_l1 : Int32), R32 (0) (288) v26_l4 → R32 (-2) (287) v26_l1 → (288 : Int) - v26_l4.toInt < (N26 : Nat) → TotP (k26_ v26_l4 v26_l2 v26_l1) (fun (r : Int32 × TX12_t) => R32 (0) (0) r.2.1 ∧ R32 (0) (0) r.2.2.1 ∧ R32 (-1) (-1) r.2.2.2)) (hm26 : (288 : Int) - v26_l4.toInt < ((N26 + 1 : Nat) : Int)) (h_v26_l4 : R32 (0) (287) v26_l4) (h_v62_l1 : R32 (-2) (287) v62_l1) : TotP (f_X12_best_J62 k26_ v26_l4 v62_l1 v62_l2) (fun (r : Int32 × TX12_t) => R32 (0) (0) r.2.1 ∧ R32 (0) (0) r.2.2.1 ∧ R32 (-1) (-1) r.2.2.2) := by
  unfold f_X12_best_J62
  exact hk26 _ _ _ (r_w (l' := 0) (h' := 288) (r_add (l := 1) (h := 288) h_v26_l4 (r_n (x := (1 : Int32)) (l := 1) (h := 1) (by decide) (by decide)) (by decide) (by decide) (by decide) (by decide)) (by decide) (by decide)) h_v62_l1 (ms_up (y := (1 : Int32)) h_v26_l4 (by decide) (by decide) (by decide) hm26)
theorem t_f_X12_best_J85 {m_t : TX12_t} {v85_t1 : Int32} : TotP (f_X12_best_J85 m_t v85_t1) (fun (r : Int32 × TX12_t) => R32 (0) (0) r.2.1 ∧ R32 (0) (0) r.2.2.1 ∧ R32 (-1) (-1) r.2.2.2) := by
  unfold f_X12_best_J85
  refine tp_e (f_X12_good.eq_1 _ _) ?_
  refine tp_nl ?_
  exact tp_s ⟨(r_n (x := (0 : Int32)) (l := 0) (h := 0) (by decide) (by decide)), (r_n (x := (0 : Int32)) (l := 0) (h := 0) (by decide) (by decide)), (r_n (x := (-1 : Int32)) (l := -1) (h := -1) (by decide) (by decide))⟩
theorem t_f_X12_best_L26 {m_t : TX12_t} {m_v : TX12_v} {q_q : TX11_q} (h_q_q_1 : R32 (2) (8) q_q.1) (h_q_q_2_1 : R32 (1) (9) q_q.2.1) (h_q_q_2_2_2_2_1 : R32 (1) (4) q_q.2.2.2.2.1) (h_q_q_2_2_2_2_2_1 : R32 (0) (5) q_q.2.2.2.2.2.1) (h_q_q_2_2_2_2_2_2_1 : R32 (0) (6) q_q.2.2.2.2.2.2.1) (h_q_q_2_2_2_2_2_2_2_1 : R32 (0) (6) q_q.2.2.2.2.2.2.2.1) : ∀ (n : Nat) (v26_l4 : Int32) (v26_l2 : Int64) (v26_l1 : Int32), R32 (0) (288) v26_l4 → R32 (-2) (287) v26_l1 → (288 : Int) - v26_l4.toInt < (n : Int) → TotP (f_X12_best_L26 m_t m_v q_q n v26_l4 v26_l2 v26_l1) (fun (r : Int32 × TX12_t) => R32 (0) (0) r.2.1 ∧ R32 (0) (0) r.2.2.1 ∧ R32 (-1) (-1) r.2.2.2) := by
  intro n
  induction n with
  | zero =>
    intro v26_l4 v26_l2 v26_l1 h_v26_l4 h_v26_l1 hm
    exact (ms_0u h_v26_l4 hm).elim
  | succ n ih =>
    intro v26_l4 v26_l2 v26_l1 h_v26_l4 h_v26_l1 hm
    rw [f_X12_best_L26]
    refine tp_e (f_X11_questions.eq_1 _) ?_
    refine tp_n (P := fun z => R32 (2) (288) z) (r_mul (l := 2) (h := 288) (r_mul (l := 2) (h := 72) h_q_q_1 h_q_q_2_1 (by decide) (by decide) (by decide) (by decide) (by decide)) h_q_q_2_2_2_2_1 (by decide) (by decide) (by decide) (by decide) (by decide)) (fun o32 h1 => ?_)
    refine tp_if (fun c2 => ?_) (fun c2 => ?_)
    · skip
      have r3 : R32 (2) (288) v26_l4 := r_le2 h1 h_v26_l4 c2
      refine tp_if (fun c4 => ?_) (fun c4 => ?_)
      · skip
        have r5 : R32 (-2) (-2) v26_l1 := r_eq1 (l := -2) (h := -2) (by decide) (by decide) h_v26_l1 (r_n (x := (-2 : Int32)) (l := -2) (h := -2) (by decide) (by decide)) c4
        exact t_f_X12_best_J85 
      · skip
        have r6 : R32 (-1) (287) v26_l1 := r_neL (by decide) h_v26_l1 (r_n (x := (-2 : Int32)) (l := -2) (h := -2) (by decide) (by decide)) c4
        refine tp_b (t_f_X12_codeOf r6 h_q_q_1 h_q_q_2_1 h_q_q_2_2_2_2_1 h_q_q_2_2_2_2_2_1 h_q_q_2_2_2_2_2_2_1 h_q_q_2_2_2_2_2_2_2_1) (fun o82 h7 => ?_)
        exact t_f_X12_best_J85 
    · skip
      have r8 : R32 (0) (287) v26_l4 := r_nle2 (by decide) h1 h_v26_l4 c2
      refine tp_b (t_f_X12_meanOf r8 h_q_q_1 h_q_q_2_1 h_q_q_2_2_2_2_1 h_q_q_2_2_2_2_2_1 h_q_q_2_2_2_2_2_2_1 h_q_q_2_2_2_2_2_2_2_1) (fun o41 h9 => ?_)
      refine tp_if (fun c10 => ?_) (fun c10 => ?_)
      · skip
        have r11 : R32 (1) (2147483647) (lg_cmp o41 v26_l2) := r_lt2 (by decide) (r_n (x := (0 : Int32)) (l := 0) (h := 0) (by decide) (by decide)) (r_top _) c10
        refine tp_b (t_f_X12_meanOf r8 h_q_q_1 h_q_q_2_1 h_q_q_2_2_2_2_1 h_q_q_2_2_2_2_2_1 h_q_q_2_2_2_2_2_2_1 h_q_q_2_2_2_2_2_2_2_1) (fun o55 h12 => ?_)
        exact t_f_X12_best_J62 ih hm r8 (r_w (l' := -2) (h' := 287) r8 (by decide) (by decide))
      · skip
        have r13 : R32 (-2147483648) (0) (lg_cmp o41 v26_l2) := r_nlt2 (r_n (x := (0 : Int32)) (l := 0) (h := 0) (by decide) (by decide)) (r_top _) c10
        exact t_f_X12_best_J62 ih hm r8 h_v26_l1
theorem t_f_X12_best {m_t : TX12_t} {m_v : TX12_v} {q_q : TX11_q} (h_q_q_1 : R32 (2) (8) q_q.1) (h_q_q_2_1 : R32 (1) (9) q_q.2.1) (h_q_q_2_2_2_2_1 : R32 (1) (4) q_q.2.2.2.2.1) (h_q_q_2_2_2_2_2_1 : R32 (0) (5) q_q.2.2.2.2.2.1) (h_q_q_2_2_2_2_2_2_1 : R32 (0) (6) q_q.2.2.2.2.2.2.1) (h_q_q_2_2_2_2_2_2_2_1 : R32 (0) (6) q_q.2.2.2.2.2.2.2.1) : TotP (f_X12_best m_t m_v q_q) (fun (r : Int32 × TX12_t) => R32 (0) (0) r.2.1 ∧ R32 (0) (0) r.2.2.1 ∧ R32 (-1) (-1) r.2.2.2) := by
  unfold f_X12_best
  exact t_f_X12_best_L26 h_q_q_1 h_q_q_2_1 h_q_q_2_2_2_2_1 h_q_q_2_2_2_2_2_1 h_q_q_2_2_2_2_2_2_1 h_q_q_2_2_2_2_2_2_2_1 FU _ _ _ (r_w (l' := 0) (h' := 288) (r_n (x := (0 : Int32)) (l := 0) (h := 0) (by decide) (by decide)) (by decide) (by decide)) (r_w (l' := -2) (h' := 287) (r_n (x := (-2 : Int32)) (l := -2) (h := -2) (by decide) (by decide)) (by decide) (by decide)) (fu_up (r_w (l' := 0) (h' := 288) (r_n (x := (0 : Int32)) (l := 0) (h := 0) (by decide) (by decide)) (by decide) (by decide)) (by decide))
theorem t_f_X12_bestBait_J86 {k41_ : Int32 → Int32 → Option (Int32 × TX12_t)} {v41_l4 : Int32} {v41_l5 : Int32} {v86_t1 : Int32} {N41 : Nat} (hk41 : ∀ (v41_l5 : Int32) (v41_l4 : Int32), R32 (0) (6) v41_l5 → (6 : Int) - v41_l5.toInt < (N41 : Nat) → TotP (k41_ v41_l5 v41_l4) (fun (r : Int32 × TX12_t) => R32 (0) (3) r.1 ∧ R32 (0) (0) r.2.1 ∧ R32 (0) (0) r.2.2.1 ∧ R32 (-1) (-1) r.2.2.2)) (hm41 : (6 : Int) - v41_l5.toInt < ((N41 + 1 : Nat) : Int)) (h_v41_l5 : R32 (0) (5) v41_l5) (h_v86_t1 : R32 (0) (1) v86_t1) : TotP (f_X12_bestBait_J86 k41_ v41_l4 v41_l5 v86_t1) (fun (r : Int32 × TX12_t) => R32 (0) (3) r.1 ∧ R32 (0) (0) r.2.1 ∧ R32 (0) (0) r.2.2.1 ∧ R32 (-1) (-1) r.2.2.2) := by
  unfold f_X12_bestBait_J86
  exact hk41 _ _ (r_w (l' := 0) (h' := 6) (r_add (l := 1) (h := 6) h_v41_l5 (r_n (x := (1 : Int32)) (l := 1) (h := 1) (by decide) (by decide)) (by decide) (by decide) (by decide) (by decide)) (by decide) (by decide)) (ms_up (y := (1 : Int32)) h_v41_l5 (by decide) (by decide) (by decide) hm41)
theorem t_f_X12_bestBait_J85 {k41_ : Int32 → Int32 → Option (Int32 × TX12_t)} {v41_l4 : Int32} {v41_l5 : Int32} {N41 : Nat} (hk41 : ∀ (v41_l5 : Int32) (v41_l4 : Int32), R32 (0) (6) v41_l5 → (6 : Int) - v41_l5.toInt < (N41 : Nat) → TotP (k41_ v41_l5 v41_l4) (fun (r : Int32 × TX12_t) => R32 (0) (3) r.1 ∧ R32 (0) (0) r.2.1 ∧ R32 (0) (0) r.2.2.1 ∧ R32 (-1) (-1) r.2.2.2)) (hm41 : (6 : Int) - v41_l5.toInt < ((N41 + 1 : Nat) : Int)) (h_v41_l5 : R32 (0) (5) v41_l5) : TotP (f_X12_bestBait_J85 k41_ v41_l4 v41_l5) (fun (r : Int32 × TX12_t) => R32 (0) (3) r.1 ∧ R32 (0) (0) r.2.1 ∧ R32 (0) (0) r.2.2.1 ∧ R32 (-1) (-1) r.2.2.2) := by
  unfold f_X12_bestBait_J85
  exact t_f_X12_bestBait_J86 hk41 hm41 h_v41_l5 (r_w (l' := 0) (h' := 1) (r_n (x := (0 : Int32)) (l := 0) (h := 0) (by decide) (by decide)) (by decide) (by decide))
theorem t_f_X12_bestBait_J109 {k24_ : Int32 → Int32 → Int32 → Option (Int32 × TX12_t)} {v24_l3 : Int32} {v109_l1 : Int32} {v109_l2 : Int32} {N24 : Nat} (hk24 : ∀ (v24_l3 : Int32) (v24_l2 : Int32) (v24_l1 : Int32), R32 (0) (4) v24_l3 → R32 (-1) (2147483647) v24_l2 → R32 (0) (3) v24_l1 → (4 : Int) - v24_l3.toInt < (N24 : Nat) → TotP (k24_ v24_l3 v24_l2 v24_l1) (fun (r : Int32 × TX12_t) => R32 (0) (3) r.1 ∧ R32 (0) (0) r.2.1 ∧ R32 (0) (0) r.2.2.1 ∧ R32 (-1) (-1) r.2.2.2)) (hm24 : (4 : Int) - v24_l3.toInt < ((N24 + 1 : Nat) : Int)) (h_v24_l3 : R32 (0) (3) v24_l3) (h_v109_l1 : R32 (0) (3) v109_l1) (h_v109_l2 : R32 (-1) (2147483647) v109_l2) : TotP (f_X12_bestBait_J109 k24_ v24_l3 v109_l1 v109_l2) (fun (r : Int32 × TX12_t) => R32 (0) (3) r.1 ∧ R32 (0) (0) r.2.1 ∧ R32 (0) (0) r.2.2.1 ∧ R32 (-1) (-1) r.2.2.2) := by
  unfold f_X12_bestBait_J109
  exact hk24 _ _ _ (r_w (l' := 0) (h' := 4) (r_add (l := 1) (h := 4) h_v24_l3 (r_n (x := (1 : Int32)) (l := 1) (h := 1) (by decide) (by decide)) (by decide) (by decide) (by decide) (by decide)) (by decide) (by decide)) h_v109_l2 h_v109_l1 (ms_up (y := (1 : Int32)) h_v24_l3 (by decide) (by decide) (by decide) hm24)
theorem t_f_X12_bestBait_L41 {m_v : TX12_v} {q_q : TX11_q} {k24_ : Int32 → Int32 → Int32 → Option (Int32 × TX12_t)} {v24_l1 : Int32} {v24_l2 : Int32} {v24_l3 : Int32} (h_q_q_1 : R32 (2) (8) q_q.1) (h_q_q_2_1 : R32 (1) (9) q_q.2.1) (h_q_q_2_2_2_2_1 : R32 (1) (4) q_q.2.2.2.2.1) (h_q_q_2_2_2_2_2_1 : R32 (0) (5) q_q.2.2.2.2.2.1) (h_q_q_2_2_2_2_2_2_1 : R32 (0) (6) q_q.2.2.2.2.2.2.1) (h_q_q_2_2_2_2_2_2_2_1 : R32 (0) (6) q_q.2.2.2.2.2.2.2.1) {N24 : Nat} (hk24 : ∀ (v24_l3 : Int32) (v24_l2 : Int32) (v24_l1 : Int32), R32 (0) (4) v24_l3 → R32 (-1) (2147483647) v24_l2 → R32 (0) (3) v24_l1 → (4 : Int) - v24_l3.toInt < (N24 : Nat) → TotP (k24_ v24_l3 v24_l2 v24_l1) (fun (r : Int32 × TX12_t) => R32 (0) (3) r.1 ∧ R32 (0) (0) r.2.1 ∧ R32 (0) (0) r.2.2.1 ∧ R32 (-1) (-1) r.2.2.2)) (hm24 : (4 : Int) - v24_l3.toInt < ((N24 + 1 : Nat) : Int)) (h_v24_l1 : R32 (0) (3) v24_l1) (h_v24_l2 : R32 (-1) (2147483647) v24_l2) (h_v24_l3 : R32 (0) (3) v24_l3) : ∀ (n : Nat) (v41_l5 : Int32) (v41_l4 : Int32), R32 (0) (6) v41_l5 → (6 : Int) - v41_l5.toInt < (n : Int) → TotP (f_X12_bestBait_L41 m_v q_q k24_ v24_l1 v24_l2 v24_l3 n v41_l5 v41_l4) (fun (r : Int32 × TX12_t) => R32 (0) (3) r.1 ∧ R32 (0) (0) r.2.1 ∧ R32 (0) (0) r.2.2.1 ∧ R32 (-1) (-1) r.2.2.2) := by
  intro n
  induction n with
  | zero =>
    intro v41_l5 v41_l4 h_v41_l5 hm
    exact (ms_0u h_v41_l5 hm).elim
  | succ n ih =>
    intro v41_l5 v41_l4 h_v41_l5 hm
    rw [f_X12_bestBait_L41]
    refine tp_if (fun c1 => ?_) (fun c1 => ?_)
    · skip
      refine tp_if (fun c2 => ?_) (fun c2 => ?_)
      · skip
        have r3 : R32 (-1) (2147483646) v24_l2 := r_lt1 (by decide) h_v24_l2 (r_top _) c2
        have r4 : R32 (0) (2147483647) v41_l4 := r_lt2 (by decide) h_v24_l2 (r_top _) c2
        exact t_f_X12_bestBait_J109 hk24 hm24 h_v24_l3 h_v24_l3 (r_w (l' := -1) (h' := 2147483647) r4 (by decide) (by decide))
      · skip
        exact t_f_X12_bestBait_J109 hk24 hm24 h_v24_l3 h_v24_l1 h_v24_l2
    · skip
      have r5 : R32 (1) (6) q_q.2.2.2.2.2.2.1 := r_nle1 (by decide) h_q_q_2_2_2_2_2_2_1 h_v41_l5 c1
      have r6 : R32 (0) (5) v41_l5 := r_nle2 (by decide) h_q_q_2_2_2_2_2_2_1 h_v41_l5 c1
      refine tp_g (r_add (l := 0) (h := 5) (r_n (x := (0 : Int32)) (l := 0) (h := 0) (by decide) (by decide)) r6 (by decide) (by decide) (by decide) (by decide)) (by decide) (by decide) ?_
      refine tp_if (fun c7 => ?_) (fun c7 => ?_)
      · skip
        have r8 : R32 (0) (0) (m_v (((0 : Int32) + v41_l5)).toNatClampNeg) := r_eq1 (l := 0) (h := 0) (by decide) (by decide) (r_top _) (r_n (x := (0 : Int32)) (l := 0) (h := 0) (by decide) (by decide)) c7
        refine tp_g r6 (by decide) (by decide) ?_
        refine tp_if (fun c9 => ?_) (fun c9 => ?_)
        · skip
          have r10 : R32 (0) (3) (q_q.2.2.2.2.2.2.2.2.2.2.2.2.2.2.2.1 (v41_l5).toNatClampNeg) := r_eq1 (l := 0) (h := 3) (by decide) (by decide) (r_top _) h_v24_l3 c9
          exact t_f_X12_bestBait_J86 ih hm r6 (r_w (l' := 0) (h' := 1) (r_n (x := (1 : Int32)) (l := 1) (h := 1) (by decide) (by decide)) (by decide) (by decide))
        · skip
          exact t_f_X12_bestBait_J85 ih hm r6
      · skip
        exact t_f_X12_bestBait_J85 ih hm r6
theorem t_f_X12_bestBait_L24 {m_t : TX12_t} {m_v : TX12_v} {q_q : TX11_q} (h_q_q_1 : R32 (2) (8) q_q.1) (h_q_q_2_1 : R32 (1) (9) q_q.2.1) (h_q_q_2_2_2_2_1 : R32 (1) (4) q_q.2.2.2.2.1) (h_q_q_2_2_2_2_2_1 : R32 (0) (5) q_q.2.2.2.2.2.1) (h_q_q_2_2_2_2_2_2_1 : R32 (0) (6) q_q.2.2.2.2.2.2.1) (h_q_q_2_2_2_2_2_2_2_1 : R32 (0) (6) q_q.2.2.2.2.2.2.2.1) : ∀ (n : Nat) (v24_l3 : Int32) (v24_l2 : Int32) (v24_l1 : Int32), R32 (0) (4) v24_l3 → R32 (-1) (2147483647) v24_l2 → R32 (0) (3) v24_l1 → (4 : Int) - v24_l3.toInt < (n : Int) → TotP (f_X12_bestBait_L24 m_t m_v q_q n v24_l3 v24_l2 v24_l1) (fun (r : Int32 × TX12_t) => R32 (0) (3) r.1 ∧ R32 (0) (0) r.2.1 ∧ R32 (0) (0) r.2.2.1 ∧ R32 (-1) (-1) r.2.2.2) := by
  intro n
  induction n with
  | zero =>
    intro v24_l3 v24_l2 v24_l1 h_v24_l3 h_v24_l2 h_v24_l1 hm
    exact (ms_0u h_v24_l3 hm).elim
  | succ n ih =>
    intro v24_l3 v24_l2 v24_l1 h_v24_l3 h_v24_l2 h_v24_l1 hm
    rw [f_X12_bestBait_L24]
    refine tp_if (fun c1 => ?_) (fun c1 => ?_)
    · skip
      have r2 : R32 (1) (4) v24_l3 := r_le2 h_q_q_2_2_2_2_1 h_v24_l3 c1
      refine tp_e (f_X12_good.eq_1 _ _) ?_
      refine tp_nl ?_
      exact tp_s ⟨h_v24_l1, (r_n (x := (0 : Int32)) (l := 0) (h := 0) (by decide) (by decide)), (r_n (x := (0 : Int32)) (l := 0) (h := 0) (by decide) (by decide)), (r_n (x := (-1 : Int32)) (l := -1) (h := -1) (by decide) (by decide))⟩
    · skip
      have r3 : R32 (0) (3) v24_l3 := r_nle2 (by decide) h_q_q_2_2_2_2_1 h_v24_l3 c1
      exact t_f_X12_bestBait_L41 h_q_q_1 h_q_q_2_1 h_q_q_2_2_2_2_1 h_q_q_2_2_2_2_2_1 h_q_q_2_2_2_2_2_2_1 h_q_q_2_2_2_2_2_2_2_1 ih hm h_v24_l1 h_v24_l2 r3 FU _ _ (r_w (l' := 0) (h' := 6) (r_n (x := (0 : Int32)) (l := 0) (h := 0) (by decide) (by decide)) (by decide) (by decide)) (fu_up (r_w (l' := 0) (h' := 6) (r_n (x := (0 : Int32)) (l := 0) (h := 0) (by decide) (by decide)) (by decide) (by decide)) (by decide))
theorem t_f_X12_bestBait {m_t : TX12_t} {m_v : TX12_v} {q_q : TX11_q} (h_q_q_1 : R32 (2) (8) q_q.1) (h_q_q_2_1 : R32 (1) (9) q_q.2.1) (h_q_q_2_2_2_2_1 : R32 (1) (4) q_q.2.2.2.2.1) (h_q_q_2_2_2_2_2_1 : R32 (0) (5) q_q.2.2.2.2.2.1) (h_q_q_2_2_2_2_2_2_1 : R32 (0) (6) q_q.2.2.2.2.2.2.1) (h_q_q_2_2_2_2_2_2_2_1 : R32 (0) (6) q_q.2.2.2.2.2.2.2.1) : TotP (f_X12_bestBait m_t m_v q_q) (fun (r : Int32 × TX12_t) => R32 (0) (3) r.1 ∧ R32 (0) (0) r.2.1 ∧ R32 (0) (0) r.2.2.1 ∧ R32 (-1) (-1) r.2.2.2) := by
  unfold f_X12_bestBait
  exact t_f_X12_bestBait_L24 h_q_q_1 h_q_q_2_1 h_q_q_2_2_2_2_1 h_q_q_2_2_2_2_2_1 h_q_q_2_2_2_2_2_2_1 h_q_q_2_2_2_2_2_2_2_1 FU _ _ _ (r_w (l' := 0) (h' := 4) (r_n (x := (0 : Int32)) (l := 0) (h := 0) (by decide) (by decide)) (by decide) (by decide)) (r_w (l' := -1) (h' := 2147483647) (r_n (x := (-1 : Int32)) (l := -1) (h := -1) (by decide) (by decide)) (by decide) (by decide)) (r_w (l' := 0) (h' := 3) (r_n (x := (0 : Int32)) (l := 0) (h := 0) (by decide) (by decide)) (by decide) (by decide)) (fu_up (r_w (l' := 0) (h' := 4) (r_n (x := (0 : Int32)) (l := 0) (h := 0) (by decide) (by decide)) (by decide) (by decide)) (by decide))
theorem t_f_X12_hungerFor_L35 {k1 : Int32} {k2 : Int32} {k3 : Int32} {k4 : Int32} {m_t : TX12_t} {q_q : TX11_q} (h_k1 : R32 (0) (5) k1) (h_k2 : R32 (0) (7) k2) (h_k3 : R32 (1) (9) k3) (h_k4 : R32 (0) (3) k4) (h_q_q_1 : R32 (2) (8) q_q.1) (h_q_q_2_1 : R32 (1) (9) q_q.2.1) (h_q_q_2_2_2_2_1 : R32 (1) (4) q_q.2.2.2.2.1) (h_q_q_2_2_2_2_2_1 : R32 (0) (5) q_q.2.2.2.2.2.1) (h_q_q_2_2_2_2_2_2_1 : R32 (1) (6) q_q.2.2.2.2.2.2.1) (h_q_q_2_2_2_2_2_2_2_1 : R32 (0) (6) q_q.2.2.2.2.2.2.2.1) : ∀ (n : Nat) (v35_l6 : Int32), R32 (0) (100) v35_l6 → (100 : Int) - v35_l6.toInt < (n : Int) → TotP (f_X12_hungerFor_L35 k1 k2 k3 k4 m_t q_q n v35_l6) (fun (r : Int32 × TX12_t) => R32 (-2) (99) r.1 ∧ R32 (0) (0) r.2.1 ∧ R32 (0) (2) r.2.2.1 ∧ R32 (-1) (-1) r.2.2.2) := by
  intro n
  induction n with
  | zero =>
    intro v35_l6 h_v35_l6 hm
    exact (ms_0u h_v35_l6 hm).elim
  | succ n ih =>
    intro v35_l6 h_v35_l6 hm
    rw [f_X12_hungerFor_L35]
    refine tp_if (fun c1 => ?_) (fun c1 => ?_)
    · skip
      have r2 : R32 (100) (100) v35_l6 := r_lt2 (by decide) (r_n (x := (99 : Int32)) (l := 99) (h := 99) (by decide) (by decide)) h_v35_l6 c1
      refine tp_e (f_X12_good.eq_1 _ _) ?_
      refine tp_nl ?_
      exact tp_s ⟨(r_w (l' := -2) (h' := 99) (r_n (x := (-2 : Int32)) (l := -2) (h := -2) (by decide) (by decide)) (by decide) (by decide)), (r_n (x := (0 : Int32)) (l := 0) (h := 0) (by decide) (by decide)), (r_w (l' := 0) (h' := 2) (r_n (x := (0 : Int32)) (l := 0) (h := 0) (by decide) (by decide)) (by decide) (by decide)), (r_n (x := (-1 : Int32)) (l := -1) (h := -1) (by decide) (by decide))⟩
    · skip
      have r3 : R32 (0) (99) v35_l6 := r_nlt2 (r_n (x := (99 : Int32)) (l := 99) (h := 99) (by decide) (by decide)) h_v35_l6 c1
      refine tp_b (t_f_X11_wishBy h_k1 h_q_q_1 h_q_q_2_1 h_q_q_2_2_2_2_1 h_q_q_2_2_2_2_2_1 h_q_q_2_2_2_2_2_2_1 h_q_q_2_2_2_2_2_2_2_1) (fun o53 h4 => ?_)
      refine tp_if (fun c5 => ?_) (fun c5 => ?_)
      · skip
        have r6 : R32 (0) (49) o53 := r_lt1 (by decide) h4 (r_n (x := (50 : Int32)) (l := 50) (h := 50) (by decide) (by decide)) c5
        exact ih _ (r_w (l' := 0) (h' := 100) (r_add (l := 1) (h := 100) r3 (r_n (x := (1 : Int32)) (l := 1) (h := 1) (by decide) (by decide)) (by decide) (by decide) (by decide) (by decide)) (by decide) (by decide)) (ms_up (y := (1 : Int32)) r3 (by decide) (by decide) (by decide) hm)
      · skip
        have r7 : R32 (50) (100) o53 := r_nlt1 h4 (r_n (x := (50 : Int32)) (l := 50) (h := 50) (by decide) (by decide)) c5
        refine tp_e (f_X12_good.eq_1 _ _) ?_
        refine tp_nl ?_
        exact tp_s ⟨(r_w (l' := -2) (h' := 99) r3 (by decide) (by decide)), (r_n (x := (0 : Int32)) (l := 0) (h := 0) (by decide) (by decide)), (r_w (l' := 0) (h' := 2) (r_n (x := (0 : Int32)) (l := 0) (h := 0) (by decide) (by decide)) (by decide) (by decide)), (r_n (x := (-1 : Int32)) (l := -1) (h := -1) (by decide) (by decide))⟩
theorem t_f_X12_hungerFor {k1 : Int32} {k2 : Int32} {k3 : Int32} {k4 : Int32} {m_t : TX12_t} {q_q : TX11_q} (h_q_q_1 : R32 (2) (8) q_q.1) (h_q_q_2_1 : R32 (1) (9) q_q.2.1) (h_q_q_2_2_2_2_1 : R32 (1) (4) q_q.2.2.2.2.1) (h_q_q_2_2_2_2_2_1 : R32 (0) (5) q_q.2.2.2.2.2.1) (h_q_q_2_2_2_2_2_2_1 : R32 (0) (6) q_q.2.2.2.2.2.2.1) (h_q_q_2_2_2_2_2_2_2_1 : R32 (0) (6) q_q.2.2.2.2.2.2.2.1) : TotP (f_X12_hungerFor k1 k2 k3 k4 m_t q_q) (fun (r : Int32 × TX12_t) => R32 (-2) (99) r.1 ∧ R32 (0) (0) r.2.1 ∧ R32 (0) (2) r.2.2.1 ∧ R32 (-1) (-1) r.2.2.2) := by
  unfold f_X12_hungerFor
  refine tp_e (f_X12_isAnswer.eq_1 _ _) ?_
  refine tp_nif (fun c1 => ?_) (fun c1 => ?_)
  · skip
    have r2 : R32 (-2147483648) (-1) k1 := r_lt1 (by decide) (r_top _) (r_n (x := (0 : Int32)) (l := 0) (h := 0) (by decide) (by decide)) c1
    refine tp_nl ?_
    refine tp_e (f_X12_refusesQuestion.eq_1 _ _ _ _ _) ?_
    refine tp_nift (d_eq (r_n (x := (0 : Int32)) (l := 0) (h := 0) (by decide) (by decide)) (r_n (x := (0 : Int32)) (l := 0) (h := 0) (by decide) (by decide))) ?_
    refine tp_nl ?_
    refine tp_iff (d_nle (r_n (x := (1 : Int32)) (l := 1) (h := 1) (by decide) (by decide)) (r_n (x := (0 : Int32)) (l := 0) (h := 0) (by decide) (by decide)) (by decide)) ?_
    refine tp_e (f_X12_refused.eq_1 _ _) ?_
    refine tp_nl ?_
    exact tp_s ⟨(r_w (l' := -2) (h' := 99) (r_n (x := (-1 : Int32)) (l := -1) (h := -1) (by decide) (by decide)) (by decide) (by decide)), (r_n (x := (0 : Int32)) (l := 0) (h := 0) (by decide) (by decide)), (r_w (l' := 0) (h' := 2) (r_n (x := (1 : Int32)) (l := 1) (h := 1) (by decide) (by decide)) (by decide) (by decide)), (r_n (x := (-1 : Int32)) (l := -1) (h := -1) (by decide) (by decide))⟩
  · skip
    have r3 : R32 (0) (2147483647) k1 := r_nlt1 (r_top _) (r_n (x := (0 : Int32)) (l := 0) (h := 0) (by decide) (by decide)) c1
    refine tp_nif (fun c4 => ?_) (fun c4 => ?_)
    · skip
      refine tp_nl ?_
      refine tp_e (f_X12_refusesQuestion.eq_1 _ _ _ _ _) ?_
      refine tp_nift (d_eq (r_n (x := (0 : Int32)) (l := 0) (h := 0) (by decide) (by decide)) (r_n (x := (0 : Int32)) (l := 0) (h := 0) (by decide) (by decide))) ?_
      refine tp_nl ?_
      refine tp_iff (d_nle (r_n (x := (1 : Int32)) (l := 1) (h := 1) (by decide) (by decide)) (r_n (x := (0 : Int32)) (l := 0) (h := 0) (by decide) (by decide)) (by decide)) ?_
      refine tp_e (f_X12_refused.eq_1 _ _) ?_
      refine tp_nl ?_
      exact tp_s ⟨(r_w (l' := -2) (h' := 99) (r_n (x := (-1 : Int32)) (l := -1) (h := -1) (by decide) (by decide)) (by decide) (by decide)), (r_n (x := (0 : Int32)) (l := 0) (h := 0) (by decide) (by decide)), (r_w (l' := 0) (h' := 2) (r_n (x := (1 : Int32)) (l := 1) (h := 1) (by decide) (by decide)) (by decide) (by decide)), (r_n (x := (-1 : Int32)) (l := -1) (h := -1) (by decide) (by decide))⟩
    · skip
      have r5 : R32 (1) (6) q_q.2.2.2.2.2.2.1 := r_nle1 (by decide) h_q_q_2_2_2_2_2_2_1 r3 c4
      have r6 : R32 (0) (5) k1 := r_nle2 (by decide) h_q_q_2_2_2_2_2_2_1 r3 c4
      refine tp_nl ?_
      refine tp_e (f_X12_refusesQuestion.eq_1 _ _ _ _ _) ?_
      refine tp_niff (d_ne2 (r_n (x := (1 : Int32)) (l := 1) (h := 1) (by decide) (by decide)) (r_n (x := (0 : Int32)) (l := 0) (h := 0) (by decide) (by decide)) (by decide)) ?_
      refine tp_nn ?_
      refine tp_e (f_X12_in.eq_1 _ _ _) ?_
      refine tp_nif (fun c7 => ?_) (fun c7 => ?_)
      · skip
        have r8 : R32 (-2147483648) (-1) k2 := r_lt1 (by decide) (r_top _) (r_n (x := (0 : Int32)) (l := 0) (h := 0) (by decide) (by decide)) c7
        refine tp_nl ?_
        refine tp_nift (d_eq (r_n (x := (0 : Int32)) (l := 0) (h := 0) (by decide) (by decide)) (r_n (x := (0 : Int32)) (l := 0) (h := 0) (by decide) (by decide))) ?_
        refine tp_nl ?_
        refine tp_iff (d_nle (r_n (x := (1 : Int32)) (l := 1) (h := 1) (by decide) (by decide)) (r_n (x := (0 : Int32)) (l := 0) (h := 0) (by decide) (by decide)) (by decide)) ?_
        refine tp_e (f_X12_refused.eq_1 _ _) ?_
        refine tp_nl ?_
        exact tp_s ⟨(r_w (l' := -2) (h' := 99) (r_n (x := (-1 : Int32)) (l := -1) (h := -1) (by decide) (by decide)) (by decide) (by decide)), (r_n (x := (0 : Int32)) (l := 0) (h := 0) (by decide) (by decide)), (r_w (l' := 0) (h' := 2) (r_n (x := (1 : Int32)) (l := 1) (h := 1) (by decide) (by decide)) (by decide) (by decide)), (r_n (x := (-1 : Int32)) (l := -1) (h := -1) (by decide) (by decide))⟩
      · skip
        have r9 : R32 (0) (2147483647) k2 := r_nlt1 (r_top _) (r_n (x := (0 : Int32)) (l := 0) (h := 0) (by decide) (by decide)) c7
        refine tp_nif (fun c10 => ?_) (fun c10 => ?_)
        · skip
          have r11 : R32 (2) (2147483647) k2 := r_lt2 (by decide) (r_sub (l := 1) (h := 7) h_q_q_1 (r_n (x := (1 : Int32)) (l := 1) (h := 1) (by decide) (by decide)) (by decide) (by decide) (by decide) (by decide)) r9 c10
          refine tp_nl ?_
          refine tp_nift (d_eq (r_n (x := (0 : Int32)) (l := 0) (h := 0) (by decide) (by decide)) (r_n (x := (0 : Int32)) (l := 0) (h := 0) (by decide) (by decide))) ?_
          refine tp_nl ?_
          refine tp_iff (d_nle (r_n (x := (1 : Int32)) (l := 1) (h := 1) (by decide) (by decide)) (r_n (x := (0 : Int32)) (l := 0) (h := 0) (by decide) (by decide)) (by decide)) ?_
          refine tp_e (f_X12_refused.eq_1 _ _) ?_
          refine tp_nl ?_
          exact tp_s ⟨(r_w (l' := -2) (h' := 99) (r_n (x := (-1 : Int32)) (l := -1) (h := -1) (by decide) (by decide)) (by decide) (by decide)), (r_n (x := (0 : Int32)) (l := 0) (h := 0) (by decide) (by decide)), (r_w (l' := 0) (h' := 2) (r_n (x := (1 : Int32)) (l := 1) (h := 1) (by decide) (by decide)) (by decide) (by decide)), (r_n (x := (-1 : Int32)) (l := -1) (h := -1) (by decide) (by decide))⟩
        · skip
          have r12 : R32 (0) (7) k2 := r_nlt2 (r_sub (l := 1) (h := 7) h_q_q_1 (r_n (x := (1 : Int32)) (l := 1) (h := 1) (by decide) (by decide)) (by decide) (by decide) (by decide) (by decide)) r9 c10
          refine tp_nl ?_
          refine tp_niff (d_ne2 (r_n (x := (1 : Int32)) (l := 1) (h := 1) (by decide) (by decide)) (r_n (x := (0 : Int32)) (l := 0) (h := 0) (by decide) (by decide)) (by decide)) ?_
          refine tp_nn ?_
          refine tp_e (f_X12_in.eq_1 _ _ _) ?_
          refine tp_nif (fun c13 => ?_) (fun c13 => ?_)
          · skip
            have r14 : R32 (-2147483648) (-1) k4 := r_lt1 (by decide) (r_top _) (r_n (x := (0 : Int32)) (l := 0) (h := 0) (by decide) (by decide)) c13
            refine tp_nl ?_
            refine tp_nift (d_eq (r_n (x := (0 : Int32)) (l := 0) (h := 0) (by decide) (by decide)) (r_n (x := (0 : Int32)) (l := 0) (h := 0) (by decide) (by decide))) ?_
            refine tp_nl ?_
            refine tp_iff (d_nle (r_n (x := (1 : Int32)) (l := 1) (h := 1) (by decide) (by decide)) (r_n (x := (0 : Int32)) (l := 0) (h := 0) (by decide) (by decide)) (by decide)) ?_
            refine tp_e (f_X12_refused.eq_1 _ _) ?_
            refine tp_nl ?_
            exact tp_s ⟨(r_w (l' := -2) (h' := 99) (r_n (x := (-1 : Int32)) (l := -1) (h := -1) (by decide) (by decide)) (by decide) (by decide)), (r_n (x := (0 : Int32)) (l := 0) (h := 0) (by decide) (by decide)), (r_w (l' := 0) (h' := 2) (r_n (x := (1 : Int32)) (l := 1) (h := 1) (by decide) (by decide)) (by decide) (by decide)), (r_n (x := (-1 : Int32)) (l := -1) (h := -1) (by decide) (by decide))⟩
          · skip
            have r15 : R32 (0) (2147483647) k4 := r_nlt1 (r_top _) (r_n (x := (0 : Int32)) (l := 0) (h := 0) (by decide) (by decide)) c13
            refine tp_nif (fun c16 => ?_) (fun c16 => ?_)
            · skip
              have r17 : R32 (1) (2147483647) k4 := r_lt2 (by decide) (r_sub (l := 0) (h := 3) h_q_q_2_2_2_2_1 (r_n (x := (1 : Int32)) (l := 1) (h := 1) (by decide) (by decide)) (by decide) (by decide) (by decide) (by decide)) r15 c16
              refine tp_nl ?_
              refine tp_nift (d_eq (r_n (x := (0 : Int32)) (l := 0) (h := 0) (by decide) (by decide)) (r_n (x := (0 : Int32)) (l := 0) (h := 0) (by decide) (by decide))) ?_
              refine tp_nl ?_
              refine tp_iff (d_nle (r_n (x := (1 : Int32)) (l := 1) (h := 1) (by decide) (by decide)) (r_n (x := (0 : Int32)) (l := 0) (h := 0) (by decide) (by decide)) (by decide)) ?_
              refine tp_e (f_X12_refused.eq_1 _ _) ?_
              refine tp_nl ?_
              exact tp_s ⟨(r_w (l' := -2) (h' := 99) (r_n (x := (-1 : Int32)) (l := -1) (h := -1) (by decide) (by decide)) (by decide) (by decide)), (r_n (x := (0 : Int32)) (l := 0) (h := 0) (by decide) (by decide)), (r_w (l' := 0) (h' := 2) (r_n (x := (1 : Int32)) (l := 1) (h := 1) (by decide) (by decide)) (by decide) (by decide)), (r_n (x := (-1 : Int32)) (l := -1) (h := -1) (by decide) (by decide))⟩
            · skip
              have r18 : R32 (0) (3) k4 := r_nlt2 (r_sub (l := 0) (h := 3) h_q_q_2_2_2_2_1 (r_n (x := (1 : Int32)) (l := 1) (h := 1) (by decide) (by decide)) (by decide) (by decide) (by decide) (by decide)) r15 c16
              refine tp_nl ?_
              refine tp_niff (d_ne2 (r_n (x := (1 : Int32)) (l := 1) (h := 1) (by decide) (by decide)) (r_n (x := (0 : Int32)) (l := 0) (h := 0) (by decide) (by decide)) (by decide)) ?_
              refine tp_nn ?_
              refine tp_e (f_X12_in.eq_1 _ _ _) ?_
              refine tp_nif (fun c19 => ?_) (fun c19 => ?_)
              · skip
                have r20 : R32 (-2147483648) (0) k3 := r_lt1 (by decide) (r_top _) (r_n (x := (1 : Int32)) (l := 1) (h := 1) (by decide) (by decide)) c19
                refine tp_nl ?_
                refine tp_nift (d_eq (r_n (x := (0 : Int32)) (l := 0) (h := 0) (by decide) (by decide)) (r_n (x := (0 : Int32)) (l := 0) (h := 0) (by decide) (by decide))) ?_
                refine tp_nl ?_
                refine tp_iff (d_nle (r_n (x := (2 : Int32)) (l := 2) (h := 2) (by decide) (by decide)) (r_n (x := (0 : Int32)) (l := 0) (h := 0) (by decide) (by decide)) (by decide)) ?_
                refine tp_e (f_X12_refused.eq_1 _ _) ?_
                refine tp_nl ?_
                exact tp_s ⟨(r_w (l' := -2) (h' := 99) (r_n (x := (-1 : Int32)) (l := -1) (h := -1) (by decide) (by decide)) (by decide) (by decide)), (r_n (x := (0 : Int32)) (l := 0) (h := 0) (by decide) (by decide)), (r_w (l' := 0) (h' := 2) (r_n (x := (2 : Int32)) (l := 2) (h := 2) (by decide) (by decide)) (by decide) (by decide)), (r_n (x := (-1 : Int32)) (l := -1) (h := -1) (by decide) (by decide))⟩
              · skip
                have r21 : R32 (1) (2147483647) k3 := r_nlt1 (r_top _) (r_n (x := (1 : Int32)) (l := 1) (h := 1) (by decide) (by decide)) c19
                refine tp_nif (fun c22 => ?_) (fun c22 => ?_)
                · skip
                  have r23 : R32 (2) (2147483647) k3 := r_lt2 (by decide) h_q_q_2_1 r21 c22
                  refine tp_nl ?_
                  refine tp_nift (d_eq (r_n (x := (0 : Int32)) (l := 0) (h := 0) (by decide) (by decide)) (r_n (x := (0 : Int32)) (l := 0) (h := 0) (by decide) (by decide))) ?_
                  refine tp_nl ?_
                  refine tp_iff (d_nle (r_n (x := (2 : Int32)) (l := 2) (h := 2) (by decide) (by decide)) (r_n (x := (0 : Int32)) (l := 0) (h := 0) (by decide) (by decide)) (by decide)) ?_
                  refine tp_e (f_X12_refused.eq_1 _ _) ?_
                  refine tp_nl ?_
                  exact tp_s ⟨(r_w (l' := -2) (h' := 99) (r_n (x := (-1 : Int32)) (l := -1) (h := -1) (by decide) (by decide)) (by decide) (by decide)), (r_n (x := (0 : Int32)) (l := 0) (h := 0) (by decide) (by decide)), (r_w (l' := 0) (h' := 2) (r_n (x := (2 : Int32)) (l := 2) (h := 2) (by decide) (by decide)) (by decide) (by decide)), (r_n (x := (-1 : Int32)) (l := -1) (h := -1) (by decide) (by decide))⟩
                · skip
                  have r24 : R32 (1) (9) k3 := r_nlt2 h_q_q_2_1 r21 c22
                  refine tp_nl ?_
                  refine tp_niff (d_ne2 (r_n (x := (1 : Int32)) (l := 1) (h := 1) (by decide) (by decide)) (r_n (x := (0 : Int32)) (l := 0) (h := 0) (by decide) (by decide)) (by decide)) ?_
                  refine tp_nl ?_
                  refine tp_ift (d_le (r_n (x := (0 : Int32)) (l := 0) (h := 0) (by decide) (by decide)) (r_n (x := (0 : Int32)) (l := 0) (h := 0) (by decide) (by decide)) (by decide)) ?_
                  exact t_f_X12_hungerFor_L35 r6 r12 r24 r18 h_q_q_1 h_q_q_2_1 h_q_q_2_2_2_2_1 h_q_q_2_2_2_2_2_1 r5 h_q_q_2_2_2_2_2_2_2_1 FU _ (r_w (l' := 0) (h' := 100) (r_n (x := (0 : Int32)) (l := 0) (h := 0) (by decide) (by decide)) (by decide) (by decide)) (fu_up (r_w (l' := 0) (h' := 100) (r_n (x := (0 : Int32)) (l := 0) (h := 0) (by decide) (by decide)) (by decide) (by decide)) (by decide))
theorem t_f_X12_freeSpots_J108 {k40_ : Int32 → Int32 → Option (Int32 × TX12_t)} {v40_l5 : Int32} {v108_t0 : Int32} {N40 : Nat} (hk40 : ∀ (v40_l5 : Int32) (v40_l4 : Int32), R32 (0) (5) v40_l5 → R32 (0) (1) v40_l4 → (5 : Int) - v40_l5.toInt < (N40 : Nat) → TotP (k40_ v40_l5 v40_l4) (fun (r : Int32 × TX12_t) => R32 (-1) (255) r.1 ∧ R32 (0) (0) r.2.1 ∧ R32 (0) (1) r.2.2.1 ∧ R32 (-1) (-1) r.2.2.2)) (hm40 : (5 : Int) - v40_l5.toInt < ((N40 + 1 : Nat) : Int)) (h_v40_l5 : R32 (0) (4) v40_l5) (h_v108_t0 : R32 (0) (1) v108_t0) : TotP (f_X12_freeSpots_J108 k40_ v40_l5 v108_t0) (fun (r : Int32 × TX12_t) => R32 (-1) (255) r.1 ∧ R32 (0) (0) r.2.1 ∧ R32 (0) (1) r.2.2.1 ∧ R32 (-1) (-1) r.2.2.2) := by
  unfold f_X12_freeSpots_J108
  exact hk40 _ _ (r_w (l' := 0) (h' := 5) (r_add (l := 1) (h := 5) h_v40_l5 (r_n (x := (1 : Int32)) (l := 1) (h := 1) (by decide) (by decide)) (by decide) (by decide) (by decide) (by decide)) (by decide) (by decide)) h_v108_t0 (ms_up (y := (1 : Int32)) h_v40_l5 (by decide) (by decide) (by decide) hm40)
theorem t_f_X12_freeSpots_J103 {k40_ : Int32 → Int32 → Option (Int32 × TX12_t)} {v40_l5 : Int32} {N40 : Nat} (hk40 : ∀ (v40_l5 : Int32) (v40_l4 : Int32), R32 (0) (5) v40_l5 → R32 (0) (1) v40_l4 → (5 : Int) - v40_l5.toInt < (N40 : Nat) → TotP (k40_ v40_l5 v40_l4) (fun (r : Int32 × TX12_t) => R32 (-1) (255) r.1 ∧ R32 (0) (0) r.2.1 ∧ R32 (0) (1) r.2.2.1 ∧ R32 (-1) (-1) r.2.2.2)) (hm40 : (5 : Int) - v40_l5.toInt < ((N40 + 1 : Nat) : Int)) (h_v40_l5 : R32 (0) (4) v40_l5) : TotP (f_X12_freeSpots_J103 k40_ v40_l5) (fun (r : Int32 × TX12_t) => R32 (-1) (255) r.1 ∧ R32 (0) (0) r.2.1 ∧ R32 (0) (1) r.2.2.1 ∧ R32 (-1) (-1) r.2.2.2) := by
  unfold f_X12_freeSpots_J103
  exact t_f_X12_freeSpots_J108 hk40 hm40 h_v40_l5 (r_w (l' := 0) (h' := 1) (r_n (x := (1 : Int32)) (l := 1) (h := 1) (by decide) (by decide)) (by decide) (by decide))
theorem t_f_X12_freeSpots_J107 {k40_ : Int32 → Int32 → Option (Int32 × TX12_t)} {v40_l5 : Int32} {N40 : Nat} (hk40 : ∀ (v40_l5 : Int32) (v40_l4 : Int32), R32 (0) (5) v40_l5 → R32 (0) (1) v40_l4 → (5 : Int) - v40_l5.toInt < (N40 : Nat) → TotP (k40_ v40_l5 v40_l4) (fun (r : Int32 × TX12_t) => R32 (-1) (255) r.1 ∧ R32 (0) (0) r.2.1 ∧ R32 (0) (1) r.2.2.1 ∧ R32 (-1) (-1) r.2.2.2)) (hm40 : (5 : Int) - v40_l5.toInt < ((N40 + 1 : Nat) : Int)) (h_v40_l5 : R32 (0) (4) v40_l5) : TotP (f_X12_freeSpots_J107 k40_ v40_l5) (fun (r : Int32 × TX12_t) => R32 (-1) (255) r.1 ∧ R32 (0) (0) r.2.1 ∧ R32 (0) (1) r.2.2.1 ∧ R32 (-1) (-1) r.2.2.2) := by
  unfold f_X12_freeSpots_J107
  exact t_f_X12_freeSpots_J108 hk40 hm40 h_v40_l5 (r_w (l' := 0) (h' := 1) (r_n (x := (0 : Int32)) (l := 0) (h := 0) (by decide) (by decide)) (by decide) (by decide))
theorem t_f_X12_freeSpots_J127 {k23_ : Int32 → Int32 → Option (Int32 × TX12_t)} {v23_l3 : Int32} {v127_l2 : Int32} {N23 : Nat} (hk23 : ∀ (v23_l3 : Int32) (v23_l2 : Int32), R32 (0) (8) v23_l3 → R32 (0) (255) v23_l2 → (8 : Int) - v23_l3.toInt < (N23 : Nat) → TotP (k23_ v23_l3 v23_l2) (fun (r : Int32 × TX12_t) => R32 (-1) (255) r.1 ∧ R32 (0) (0) r.2.1 ∧ R32 (0) (1) r.2.2.1 ∧ R32 (-1) (-1) r.2.2.2)) (hm23 : (8 : Int) - v23_l3.toInt < ((N23 + 1 : Nat) : Int)) (h_v23_l3 : R32 (0) (7) v23_l3) (h_v127_l2 : R32 (0) (255) v127_l2) : TotP (f_X12_freeSpots_J127 k23_ v23_l3 v127_l2) (fun (r : Int32 × TX12_t) => R32 (-1) (255) r.1 ∧ R32 (0) (0) r.2.1 ∧ R32 (0) (1) r.2.2.1 ∧ R32 (-1) (-1) r.2.2.2) := by
  unfold f_X12_freeSpots_J127
  exact hk23 _ _ (r_w (l' := 0) (h' := 8) (r_add (l := 1) (h := 8) h_v23_l3 (r_n (x := (1 : Int32)) (l := 1) (h := 1) (by decide) (by decide)) (by decide) (by decide) (by decide) (by decide)) (by decide) (by decide)) h_v127_l2 (ms_up (y := (1 : Int32)) h_v23_l3 (by decide) (by decide) (by decide) hm23)
theorem t_f_X12_freeSpots_L40 {k1 : Int32} {m_v : TX12_v} {q_q : TX11_q} {k23_ : Int32 → Int32 → Option (Int32 × TX12_t)} {v23_l2 : Int32} {v23_l3 : Int32} (h_k1 : R32 (0) (4) k1) (h_q_q_1 : R32 (2) (8) q_q.1) (h_q_q_2_1 : R32 (1) (9) q_q.2.1) (h_q_q_2_2_2_2_1 : R32 (1) (4) q_q.2.2.2.2.1) (h_q_q_2_2_2_2_2_1 : R32 (1) (5) q_q.2.2.2.2.2.1) (h_q_q_2_2_2_2_2_2_1 : R32 (0) (6) q_q.2.2.2.2.2.2.1) (h_q_q_2_2_2_2_2_2_2_1 : R32 (0) (6) q_q.2.2.2.2.2.2.2.1) {N23 : Nat} (hk23 : ∀ (v23_l3 : Int32) (v23_l2 : Int32), R32 (0) (8) v23_l3 → R32 (0) (255) v23_l2 → (8 : Int) - v23_l3.toInt < (N23 : Nat) → TotP (k23_ v23_l3 v23_l2) (fun (r : Int32 × TX12_t) => R32 (-1) (255) r.1 ∧ R32 (0) (0) r.2.1 ∧ R32 (0) (1) r.2.2.1 ∧ R32 (-1) (-1) r.2.2.2)) (hm23 : (8 : Int) - v23_l3.toInt < ((N23 + 1 : Nat) : Int)) (h_v23_l2 : R32 (0) (255) v23_l2) (h_v23_l3 : R32 (0) (7) v23_l3) : ∀ (n : Nat) (v40_l5 : Int32) (v40_l4 : Int32), R32 (0) (5) v40_l5 → R32 (0) (1) v40_l4 → (5 : Int) - v40_l5.toInt < (n : Int) → TotP (f_X12_freeSpots_L40 k1 m_v q_q k23_ v23_l2 v23_l3 n v40_l5 v40_l4) (fun (r : Int32 × TX12_t) => R32 (-1) (255) r.1 ∧ R32 (0) (0) r.2.1 ∧ R32 (0) (1) r.2.2.1 ∧ R32 (-1) (-1) r.2.2.2) := by
  intro n
  induction n with
  | zero =>
    intro v40_l5 v40_l4 h_v40_l5 h_v40_l4 hm
    exact (ms_0u h_v40_l5 hm).elim
  | succ n ih =>
    intro v40_l5 v40_l4 h_v40_l5 h_v40_l4 hm
    rw [f_X12_freeSpots_L40]
    refine tp_if (fun c1 => ?_) (fun c1 => ?_)
    · skip
      have r2 : R32 (1) (5) v40_l5 := r_le2 h_q_q_2_2_2_2_2_1 h_v40_l5 c1
      refine tp_if (fun c3 => ?_) (fun c3 => ?_)
      · skip
        have r4 : R32 (0) (0) v40_l4 := r_eq1 (l := 0) (h := 0) (by decide) (by decide) h_v40_l4 (r_n (x := (0 : Int32)) (l := 0) (h := 0) (by decide) (by decide)) c3
        exact t_f_X12_freeSpots_J127 hk23 hm23 h_v23_l3 h_v23_l2
      · skip
        have r5 : R32 (1) (1) v40_l4 := r_neL (by decide) h_v40_l4 (r_n (x := (0 : Int32)) (l := 0) (h := 0) (by decide) (by decide)) c3
        exact t_f_X12_freeSpots_J127 hk23 hm23 h_v23_l3 (r_or 8 255 h_v23_l2 (r_shl 0 7 (l := 1) (h := 128) h_v23_l3 (by decide) (by decide) (by decide)) (by decide) (by decide) (by decide) (by decide) (by decide))
    · skip
      have r6 : R32 (0) (4) v40_l5 := r_nle2 (by decide) h_q_q_2_2_2_2_2_1 h_v40_l5 c1
      refine tp_if (fun c7 => ?_) (fun c7 => ?_)
      · skip
        have r8 : R32 (0) (0) v40_l4 := r_eq1 (l := 0) (h := 0) (by decide) (by decide) h_v40_l4 (r_n (x := (0 : Int32)) (l := 0) (h := 0) (by decide) (by decide)) c7
        exact t_f_X12_freeSpots_J107 ih hm r6
      · skip
        have r9 : R32 (1) (1) v40_l4 := r_neL (by decide) h_v40_l4 (r_n (x := (0 : Int32)) (l := 0) (h := 0) (by decide) (by decide)) c7
        refine tp_if (fun c10 => ?_) (fun c10 => ?_)
        · skip
          exact t_f_X12_freeSpots_J103 ih hm r6
        · skip
          refine tp_g (r_add (l := 18) (h := 22) (r_n (x := (18 : Int32)) (l := 18) (h := 18) (by decide) (by decide)) r6 (by decide) (by decide) (by decide) (by decide)) (by decide) (by decide) ?_
          refine tp_if (fun c11 => ?_) (fun c11 => ?_)
          · skip
            have r12 : R32 (-2) (-2) (m_v (((18 : Int32) + v40_l5)).toNatClampNeg) := r_eq1 (l := -2) (h := -2) (by decide) (by decide) (r_top _) (r_n (x := (-2 : Int32)) (l := -2) (h := -2) (by decide) (by decide)) c11
            exact t_f_X12_freeSpots_J103 ih hm r6
          · skip
            refine tp_g (r_add (l := 18) (h := 22) (r_n (x := (18 : Int32)) (l := 18) (h := 18) (by decide) (by decide)) r6 (by decide) (by decide) (by decide) (by decide)) (by decide) (by decide) ?_
            refine tp_b (t_f_X12_spotOf h_q_q_1 h_q_q_2_1 h_q_q_2_2_2_2_1 (r_w (l' := 0) (h' := 5) h_q_q_2_2_2_2_2_1 (by decide) (by decide)) h_q_q_2_2_2_2_2_2_1 h_q_q_2_2_2_2_2_2_2_1) (fun o94 h13 => ?_)
            refine tp_b (t_f_X12_areTangled h_k1 r6 h_q_q_1 h_q_q_2_1 h_q_q_2_2_2_2_1 (r_w (l' := 0) (h' := 5) h_q_q_2_2_2_2_2_1 (by decide) (by decide)) h_q_q_2_2_2_2_2_2_1 h_q_q_2_2_2_2_2_2_2_1) (fun o97 h14 => ?_)
            refine tp_if (fun c15 => ?_) (fun c15 => ?_)
            · skip
              have r16 : R32 (0) (0) o97 := r_eq1 (l := 0) (h := 0) (by decide) (by decide) h14 (r_n (x := (0 : Int32)) (l := 0) (h := 0) (by decide) (by decide)) c15
              exact t_f_X12_freeSpots_J103 ih hm r6
            · skip
              have r17 : R32 (1) (1) o97 := r_neL (by decide) h14 (r_n (x := (0 : Int32)) (l := 0) (h := 0) (by decide) (by decide)) c15
              exact t_f_X12_freeSpots_J107 ih hm r6
theorem t_f_X12_freeSpots_L23 {k1 : Int32} {m_t : TX12_t} {m_v : TX12_v} {q_q : TX11_q} (h_k1 : R32 (0) (4) k1) (h_q_q_1 : R32 (2) (8) q_q.1) (h_q_q_2_1 : R32 (1) (9) q_q.2.1) (h_q_q_2_2_2_2_1 : R32 (1) (4) q_q.2.2.2.2.1) (h_q_q_2_2_2_2_2_1 : R32 (1) (5) q_q.2.2.2.2.2.1) (h_q_q_2_2_2_2_2_2_1 : R32 (0) (6) q_q.2.2.2.2.2.2.1) (h_q_q_2_2_2_2_2_2_2_1 : R32 (0) (6) q_q.2.2.2.2.2.2.2.1) : ∀ (n : Nat) (v23_l3 : Int32) (v23_l2 : Int32), R32 (0) (8) v23_l3 → R32 (0) (255) v23_l2 → (8 : Int) - v23_l3.toInt < (n : Int) → TotP (f_X12_freeSpots_L23 k1 m_t m_v q_q n v23_l3 v23_l2) (fun (r : Int32 × TX12_t) => R32 (-1) (255) r.1 ∧ R32 (0) (0) r.2.1 ∧ R32 (0) (1) r.2.2.1 ∧ R32 (-1) (-1) r.2.2.2) := by
  intro n
  induction n with
  | zero =>
    intro v23_l3 v23_l2 h_v23_l3 h_v23_l2 hm
    exact (ms_0u h_v23_l3 hm).elim
  | succ n ih =>
    intro v23_l3 v23_l2 h_v23_l3 h_v23_l2 hm
    rw [f_X12_freeSpots_L23]
    refine tp_if (fun c1 => ?_) (fun c1 => ?_)
    · skip
      have r2 : R32 (2) (8) v23_l3 := r_le2 h_q_q_1 h_v23_l3 c1
      refine tp_e (f_X12_good.eq_1 _ _) ?_
      refine tp_nl ?_
      exact tp_s ⟨(r_w (l' := -1) (h' := 255) h_v23_l2 (by decide) (by decide)), (r_n (x := (0 : Int32)) (l := 0) (h := 0) (by decide) (by decide)), (r_w (l' := 0) (h' := 1) (r_n (x := (0 : Int32)) (l := 0) (h := 0) (by decide) (by decide)) (by decide) (by decide)), (r_n (x := (-1 : Int32)) (l := -1) (h := -1) (by decide) (by decide))⟩
    · skip
      have r3 : R32 (0) (7) v23_l3 := r_nle2 (by decide) h_q_q_1 h_v23_l3 c1
      exact t_f_X12_freeSpots_L40 h_k1 h_q_q_1 h_q_q_2_1 h_q_q_2_2_2_2_1 h_q_q_2_2_2_2_2_1 h_q_q_2_2_2_2_2_2_1 h_q_q_2_2_2_2_2_2_2_1 ih hm h_v23_l2 r3 FU _ _ (r_w (l' := 0) (h' := 5) (r_n (x := (0 : Int32)) (l := 0) (h := 0) (by decide) (by decide)) (by decide) (by decide)) (r_w (l' := 0) (h' := 1) (r_n (x := (1 : Int32)) (l := 1) (h := 1) (by decide) (by decide)) (by decide) (by decide)) (fu_up (r_w (l' := 0) (h' := 5) (r_n (x := (0 : Int32)) (l := 0) (h := 0) (by decide) (by decide)) (by decide) (by decide)) (by decide))
theorem t_f_X12_freeSpots {k1 : Int32} {m_t : TX12_t} {m_v : TX12_v} {q_q : TX11_q} (h_q_q_1 : R32 (2) (8) q_q.1) (h_q_q_2_1 : R32 (1) (9) q_q.2.1) (h_q_q_2_2_2_2_1 : R32 (1) (4) q_q.2.2.2.2.1) (h_q_q_2_2_2_2_2_1 : R32 (0) (5) q_q.2.2.2.2.2.1) (h_q_q_2_2_2_2_2_2_1 : R32 (0) (6) q_q.2.2.2.2.2.2.1) (h_q_q_2_2_2_2_2_2_2_1 : R32 (0) (6) q_q.2.2.2.2.2.2.2.1) : TotP (f_X12_freeSpots k1 m_t m_v q_q) (fun (r : Int32 × TX12_t) => R32 (-1) (255) r.1 ∧ R32 (0) (0) r.2.1 ∧ R32 (0) (1) r.2.2.1 ∧ R32 (-1) (-1) r.2.2.2) := by
  unfold f_X12_freeSpots
  refine tp_e (f_X12_isAsker.eq_1 _ _) ?_
  refine tp_nif (fun c1 => ?_) (fun c1 => ?_)
  · skip
    have r2 : R32 (-2147483648) (-1) k1 := r_lt1 (by decide) (r_top _) (r_n (x := (0 : Int32)) (l := 0) (h := 0) (by decide) (by decide)) c1
    refine tp_nl ?_
    refine tp_ift (d_eq (r_n (x := (0 : Int32)) (l := 0) (h := 0) (by decide) (by decide)) (r_n (x := (0 : Int32)) (l := 0) (h := 0) (by decide) (by decide))) ?_
    refine tp_e (f_X12_refused.eq_1 _ _) ?_
    refine tp_nl ?_
    exact tp_s ⟨(r_w (l' := -1) (h' := 255) (r_n (x := (-1 : Int32)) (l := -1) (h := -1) (by decide) (by decide)) (by decide) (by decide)), (r_n (x := (0 : Int32)) (l := 0) (h := 0) (by decide) (by decide)), (r_w (l' := 0) (h' := 1) (r_n (x := (1 : Int32)) (l := 1) (h := 1) (by decide) (by decide)) (by decide) (by decide)), (r_n (x := (-1 : Int32)) (l := -1) (h := -1) (by decide) (by decide))⟩
  · skip
    have r3 : R32 (0) (2147483647) k1 := r_nlt1 (r_top _) (r_n (x := (0 : Int32)) (l := 0) (h := 0) (by decide) (by decide)) c1
    refine tp_nif (fun c4 => ?_) (fun c4 => ?_)
    · skip
      refine tp_nl ?_
      refine tp_ift (d_eq (r_n (x := (0 : Int32)) (l := 0) (h := 0) (by decide) (by decide)) (r_n (x := (0 : Int32)) (l := 0) (h := 0) (by decide) (by decide))) ?_
      refine tp_e (f_X12_refused.eq_1 _ _) ?_
      refine tp_nl ?_
      exact tp_s ⟨(r_w (l' := -1) (h' := 255) (r_n (x := (-1 : Int32)) (l := -1) (h := -1) (by decide) (by decide)) (by decide) (by decide)), (r_n (x := (0 : Int32)) (l := 0) (h := 0) (by decide) (by decide)), (r_w (l' := 0) (h' := 1) (r_n (x := (1 : Int32)) (l := 1) (h := 1) (by decide) (by decide)) (by decide) (by decide)), (r_n (x := (-1 : Int32)) (l := -1) (h := -1) (by decide) (by decide))⟩
    · skip
      have r5 : R32 (1) (5) q_q.2.2.2.2.2.1 := r_nle1 (by decide) h_q_q_2_2_2_2_2_1 r3 c4
      have r6 : R32 (0) (4) k1 := r_nle2 (by decide) h_q_q_2_2_2_2_2_1 r3 c4
      refine tp_nl ?_
      refine tp_iff (d_ne2 (r_n (x := (1 : Int32)) (l := 1) (h := 1) (by decide) (by decide)) (r_n (x := (0 : Int32)) (l := 0) (h := 0) (by decide) (by decide)) (by decide)) ?_
      exact t_f_X12_freeSpots_L23 r6 h_q_q_1 h_q_q_2_1 h_q_q_2_2_2_2_1 r5 h_q_q_2_2_2_2_2_2_1 h_q_q_2_2_2_2_2_2_2_1 FU _ _ (r_w (l' := 0) (h' := 8) (r_n (x := (0 : Int32)) (l := 0) (h := 0) (by decide) (by decide)) (by decide) (by decide)) (r_w (l' := 0) (h' := 255) (r_n (x := (0 : Int32)) (l := 0) (h := 0) (by decide) (by decide)) (by decide) (by decide)) (fu_up (r_w (l' := 0) (h' := 8) (r_n (x := (0 : Int32)) (l := 0) (h := 0) (by decide) (by decide)) (by decide) (by decide)) (by decide))
theorem t_f_X12_tangles_J61 {m_t : TX12_t} : TotP (f_X12_tangles_J61 m_t) (fun (r : Int32 × TX12_t) => R32 (-1) (1) r.1 ∧ R32 (0) (0) r.2.1 ∧ R32 (0) (1) r.2.2.1 ∧ R32 (-1) (-1) r.2.2.2) := by
  unfold f_X12_tangles_J61
  refine tp_e (f_X12_refused.eq_1 _ _) ?_
  refine tp_nl ?_
  exact tp_s ⟨(r_w (l' := -1) (h' := 1) (r_n (x := (-1 : Int32)) (l := -1) (h := -1) (by decide) (by decide)) (by decide) (by decide)), (r_n (x := (0 : Int32)) (l := 0) (h := 0) (by decide) (by decide)), (r_w (l' := 0) (h' := 1) (r_n (x := (1 : Int32)) (l := 1) (h := 1) (by decide) (by decide)) (by decide) (by decide)), (r_n (x := (-1 : Int32)) (l := -1) (h := -1) (by decide) (by decide))⟩
theorem t_f_X12_tangles_J85 {m_t : TX12_t} {v85_t1 : Int32} (h_v85_t1 : R32 (0) (1) v85_t1) : TotP (f_X12_tangles_J85 m_t v85_t1) (fun (r : Int32 × TX12_t) => R32 (-1) (1) r.1 ∧ R32 (0) (0) r.2.1 ∧ R32 (0) (1) r.2.2.1 ∧ R32 (-1) (-1) r.2.2.2) := by
  unfold f_X12_tangles_J85
  refine tp_e (f_X12_good.eq_1 _ _) ?_
  refine tp_nl ?_
  exact tp_s ⟨(r_w (l' := -1) (h' := 1) h_v85_t1 (by decide) (by decide)), (r_n (x := (0 : Int32)) (l := 0) (h := 0) (by decide) (by decide)), (r_w (l' := 0) (h' := 1) (r_n (x := (0 : Int32)) (l := 0) (h := 0) (by decide) (by decide)) (by decide) (by decide)), (r_n (x := (-1 : Int32)) (l := -1) (h := -1) (by decide) (by decide))⟩
theorem t_f_X12_tangles {k1 : Int32} {k2 : Int32} {k3 : Int32} {k4 : Int32} {m_t : TX12_t} {q_q : TX11_q} (h_q_q_1 : R32 (2) (8) q_q.1) (h_q_q_2_1 : R32 (1) (9) q_q.2.1) (h_q_q_2_2_2_2_1 : R32 (1) (4) q_q.2.2.2.2.1) (h_q_q_2_2_2_2_2_1 : R32 (0) (5) q_q.2.2.2.2.2.1) (h_q_q_2_2_2_2_2_2_1 : R32 (0) (6) q_q.2.2.2.2.2.2.1) (h_q_q_2_2_2_2_2_2_2_1 : R32 (0) (6) q_q.2.2.2.2.2.2.2.1) : TotP (f_X12_tangles k1 k2 k3 k4 m_t q_q) (fun (r : Int32 × TX12_t) => R32 (-1) (1) r.1 ∧ R32 (0) (0) r.2.1 ∧ R32 (0) (1) r.2.2.1 ∧ R32 (-1) (-1) r.2.2.2) := by
  unfold f_X12_tangles
  refine tp_e (f_X12_isAsker.eq_1 _ _) ?_
  refine tp_nif (fun c1 => ?_) (fun c1 => ?_)
  · skip
    have r2 : R32 (-2147483648) (-1) k1 := r_lt1 (by decide) (r_top _) (r_n (x := (0 : Int32)) (l := 0) (h := 0) (by decide) (by decide)) c1
    refine tp_nl ?_
    refine tp_ift (d_eq (r_n (x := (0 : Int32)) (l := 0) (h := 0) (by decide) (by decide)) (r_n (x := (0 : Int32)) (l := 0) (h := 0) (by decide) (by decide))) ?_
    exact t_f_X12_tangles_J61 
  · skip
    have r3 : R32 (0) (2147483647) k1 := r_nlt1 (r_top _) (r_n (x := (0 : Int32)) (l := 0) (h := 0) (by decide) (by decide)) c1
    refine tp_nif (fun c4 => ?_) (fun c4 => ?_)
    · skip
      refine tp_nl ?_
      refine tp_ift (d_eq (r_n (x := (0 : Int32)) (l := 0) (h := 0) (by decide) (by decide)) (r_n (x := (0 : Int32)) (l := 0) (h := 0) (by decide) (by decide))) ?_
      exact t_f_X12_tangles_J61 
    · skip
      have r5 : R32 (1) (5) q_q.2.2.2.2.2.1 := r_nle1 (by decide) h_q_q_2_2_2_2_2_1 r3 c4
      have r6 : R32 (0) (4) k1 := r_nle2 (by decide) h_q_q_2_2_2_2_2_1 r3 c4
      refine tp_nl ?_
      refine tp_iff (d_ne2 (r_n (x := (1 : Int32)) (l := 1) (h := 1) (by decide) (by decide)) (r_n (x := (0 : Int32)) (l := 0) (h := 0) (by decide) (by decide)) (by decide)) ?_
      refine tp_e (f_X12_isAsker.eq_1 _ _) ?_
      refine tp_nif (fun c7 => ?_) (fun c7 => ?_)
      · skip
        have r8 : R32 (-2147483648) (-1) k3 := r_lt1 (by decide) (r_top _) (r_n (x := (0 : Int32)) (l := 0) (h := 0) (by decide) (by decide)) c7
        refine tp_nl ?_
        refine tp_ift (d_eq (r_n (x := (0 : Int32)) (l := 0) (h := 0) (by decide) (by decide)) (r_n (x := (0 : Int32)) (l := 0) (h := 0) (by decide) (by decide))) ?_
        exact t_f_X12_tangles_J61 
      · skip
        have r9 : R32 (0) (2147483647) k3 := r_nlt1 (r_top _) (r_n (x := (0 : Int32)) (l := 0) (h := 0) (by decide) (by decide)) c7
        refine tp_nif (fun c10 => ?_) (fun c10 => ?_)
        · skip
          have r11 : R32 (1) (2147483647) k3 := r_le2 r5 r9 c10
          refine tp_nl ?_
          refine tp_ift (d_eq (r_n (x := (0 : Int32)) (l := 0) (h := 0) (by decide) (by decide)) (r_n (x := (0 : Int32)) (l := 0) (h := 0) (by decide) (by decide))) ?_
          exact t_f_X12_tangles_J61 
        · skip
          have r12 : R32 (0) (4) k3 := r_nle2 (by decide) r5 r9 c10
          refine tp_nl ?_
          refine tp_iff (d_ne2 (r_n (x := (1 : Int32)) (l := 1) (h := 1) (by decide) (by decide)) (r_n (x := (0 : Int32)) (l := 0) (h := 0) (by decide) (by decide)) (by decide)) ?_
          refine tp_if (fun c13 => ?_) (fun c13 => ?_)
          · skip
            exact t_f_X12_tangles_J61 
          · skip
            refine tp_e (f_X12_in.eq_1 _ _ _) ?_
            refine tp_nif (fun c14 => ?_) (fun c14 => ?_)
            · skip
              have r15 : R32 (-2147483648) (-1) k2 := r_lt1 (by decide) (r_top _) (r_n (x := (0 : Int32)) (l := 0) (h := 0) (by decide) (by decide)) c14
              refine tp_nl ?_
              refine tp_ift (d_eq (r_n (x := (0 : Int32)) (l := 0) (h := 0) (by decide) (by decide)) (r_n (x := (0 : Int32)) (l := 0) (h := 0) (by decide) (by decide))) ?_
              exact t_f_X12_tangles_J61 
            · skip
              have r16 : R32 (0) (2147483647) k2 := r_nlt1 (r_top _) (r_n (x := (0 : Int32)) (l := 0) (h := 0) (by decide) (by decide)) c14
              refine tp_nif (fun c17 => ?_) (fun c17 => ?_)
              · skip
                have r18 : R32 (2) (2147483647) k2 := r_lt2 (by decide) (r_sub (l := 1) (h := 7) h_q_q_1 (r_n (x := (1 : Int32)) (l := 1) (h := 1) (by decide) (by decide)) (by decide) (by decide) (by decide) (by decide)) r16 c17
                refine tp_nl ?_
                refine tp_ift (d_eq (r_n (x := (0 : Int32)) (l := 0) (h := 0) (by decide) (by decide)) (r_n (x := (0 : Int32)) (l := 0) (h := 0) (by decide) (by decide))) ?_
                exact t_f_X12_tangles_J61 
              · skip
                have r19 : R32 (0) (7) k2 := r_nlt2 (r_sub (l := 1) (h := 7) h_q_q_1 (r_n (x := (1 : Int32)) (l := 1) (h := 1) (by decide) (by decide)) (by decide) (by decide) (by decide) (by decide)) r16 c17
                refine tp_nl ?_
                refine tp_iff (d_ne2 (r_n (x := (1 : Int32)) (l := 1) (h := 1) (by decide) (by decide)) (r_n (x := (0 : Int32)) (l := 0) (h := 0) (by decide) (by decide)) (by decide)) ?_
                refine tp_e (f_X12_in.eq_1 _ _ _) ?_
                refine tp_nif (fun c20 => ?_) (fun c20 => ?_)
                · skip
                  have r21 : R32 (-2147483648) (-1) k4 := r_lt1 (by decide) (r_top _) (r_n (x := (0 : Int32)) (l := 0) (h := 0) (by decide) (by decide)) c20
                  refine tp_nl ?_
                  refine tp_ift (d_eq (r_n (x := (0 : Int32)) (l := 0) (h := 0) (by decide) (by decide)) (r_n (x := (0 : Int32)) (l := 0) (h := 0) (by decide) (by decide))) ?_
                  exact t_f_X12_tangles_J61 
                · skip
                  have r22 : R32 (0) (2147483647) k4 := r_nlt1 (r_top _) (r_n (x := (0 : Int32)) (l := 0) (h := 0) (by decide) (by decide)) c20
                  refine tp_nif (fun c23 => ?_) (fun c23 => ?_)
                  · skip
                    have r24 : R32 (2) (2147483647) k4 := r_lt2 (by decide) (r_sub (l := 1) (h := 7) h_q_q_1 (r_n (x := (1 : Int32)) (l := 1) (h := 1) (by decide) (by decide)) (by decide) (by decide) (by decide) (by decide)) r22 c23
                    refine tp_nl ?_
                    refine tp_ift (d_eq (r_n (x := (0 : Int32)) (l := 0) (h := 0) (by decide) (by decide)) (r_n (x := (0 : Int32)) (l := 0) (h := 0) (by decide) (by decide))) ?_
                    exact t_f_X12_tangles_J61 
                  · skip
                    have r25 : R32 (0) (7) k4 := r_nlt2 (r_sub (l := 1) (h := 7) h_q_q_1 (r_n (x := (1 : Int32)) (l := 1) (h := 1) (by decide) (by decide)) (by decide) (by decide) (by decide) (by decide)) r22 c23
                    refine tp_nl ?_
                    refine tp_iff (d_ne2 (r_n (x := (1 : Int32)) (l := 1) (h := 1) (by decide) (by decide)) (r_n (x := (0 : Int32)) (l := 0) (h := 0) (by decide) (by decide)) (by decide)) ?_
                    refine tp_b (t_f_X12_areTangled r6 r12 h_q_q_1 h_q_q_2_1 h_q_q_2_2_2_2_1 (r_w (l' := 0) (h' := 5) r5 (by decide) (by decide)) h_q_q_2_2_2_2_2_2_1 h_q_q_2_2_2_2_2_2_2_1) (fun o74 h26 => ?_)
                    refine tp_if (fun c27 => ?_) (fun c27 => ?_)
                    · skip
                      have r28 : R32 (0) (0) o74 := r_eq1 (l := 0) (h := 0) (by decide) (by decide) h26 (r_n (x := (0 : Int32)) (l := 0) (h := 0) (by decide) (by decide)) c27
                      exact t_f_X12_tangles_J85 (r_w (l' := 0) (h' := 1) (r_n (x := (0 : Int32)) (l := 0) (h := 0) (by decide) (by decide)) (by decide) (by decide))
                    · skip
                      have r29 : R32 (1) (1) o74 := r_neL (by decide) h26 (r_n (x := (0 : Int32)) (l := 0) (h := 0) (by decide) (by decide)) c27
                      exact t_f_X12_tangles_J85 (r_w (l' := 0) (h' := 1) (r_n (x := (1 : Int32)) (l := 1) (h := 1) (by decide) (by decide)) (by decide) (by decide))
theorem t_f_X12_nextIn_J21 {v2_l3 : Int32} (h_v2_l3 : R32 (0) (5) v2_l3) : TotP (f_X12_nextIn_J21 v2_l3) (fun (r : Int32) => R32 (0) (5) r) := by
  unfold f_X12_nextIn_J21
  exact tp_s h_v2_l3
theorem t_f_X12_nextIn_L2 {k1 : Int32} (h_k1 : R32 (1) (31) k1) : ∀ (n : Nat) (v2_l3 : Int32), R32 (0) (5) v2_l3 → (5 : Int) - v2_l3.toInt < (n : Int) → TotP (f_X12_nextIn_L2 k1 n v2_l3) (fun (r : Int32) => R32 (0) (5) r) := by
  intro n
  induction n with
  | zero =>
    intro v2_l3 h_v2_l3 hm
    exact (ms_0u h_v2_l3 hm).elim
  | succ n ih =>
    intro v2_l3 h_v2_l3 hm
    rw [f_X12_nextIn_L2]
    refine tp_if (fun c1 => ?_) (fun c1 => ?_)
    · skip
      have r2 : R32 (5) (5) v2_l3 := r_le2 (r_n (x := (5 : Int32)) (l := 5) (h := 5) (by decide) (by decide)) h_v2_l3 c1
      exact t_f_X12_nextIn_J21 (r_w (l' := 0) (h' := 5) r2 (by decide) (by decide))
    · skip
      have r3 : R32 (0) (4) v2_l3 := r_nle2 (by decide) (r_n (x := (5 : Int32)) (l := 5) (h := 5) (by decide) (by decide)) h_v2_l3 c1
      refine tp_e (f_X12_bit.eq_1 _ _) ?_
      refine tp_nif (fun c4 => ?_) (fun c4 => ?_)
      · skip
        have r5 : R32 (1) (1) ((k1 >>> (v2_l3 &&& (31 : Int32))) &&& (1 : Int32)) := r_eq1 (l := 1) (h := 1) (by decide) (by decide) r_and1 (r_n (x := (1 : Int32)) (l := 1) (h := 1) (by decide) (by decide)) c4
        refine tp_nl ?_
        refine tp_iff (d_ne2 (r_n (x := (1 : Int32)) (l := 1) (h := 1) (by decide) (by decide)) (r_n (x := (0 : Int32)) (l := 0) (h := 0) (by decide) (by decide)) (by decide)) ?_
        exact t_f_X12_nextIn_J21 (r_w (l' := 0) (h' := 5) r3 (by decide) (by decide))
      · skip
        have r6 : R32 (0) (0) ((k1 >>> (v2_l3 &&& (31 : Int32))) &&& (1 : Int32)) := r_neH (by decide) r_and1 (r_n (x := (1 : Int32)) (l := 1) (h := 1) (by decide) (by decide)) c4
        refine tp_nl ?_
        refine tp_ift (d_eq (r_n (x := (0 : Int32)) (l := 0) (h := 0) (by decide) (by decide)) (r_n (x := (0 : Int32)) (l := 0) (h := 0) (by decide) (by decide))) ?_
        exact ih _ (r_w (l' := 0) (h' := 5) (r_add (l := 1) (h := 5) r3 (r_n (x := (1 : Int32)) (l := 1) (h := 1) (by decide) (by decide)) (by decide) (by decide) (by decide) (by decide)) (by decide) (by decide)) (ms_up (y := (1 : Int32)) r3 (by decide) (by decide) (by decide) hm)
theorem t_f_X12_nextIn {k1 : Int32} {k2 : Int32} (h_k1 : R32 (1) (31) k1) (h_k2 : R32 (0) (5) k2) : TotP (f_X12_nextIn k1 k2) (fun (r : Int32) => R32 (0) (5) r) := by
  unfold f_X12_nextIn
  exact t_f_X12_nextIn_L2 h_k1 FU _ h_k2 (fu_up h_k2 (by decide))
theorem t_f_X12_isSeat_J38 {k2_ : Int32 → Option Int32} {v2_l3 : Int32} {N2 : Nat} (hk2 : ∀ (v2_l3 : Int32), R32 (0) (4) v2_l3 → (4 : Int) - v2_l3.toInt < (N2 : Nat) → TotP (k2_ v2_l3) (fun (r : Int32) => R32 (0) (1) r)) (hm2 : (4 : Int) - v2_l3.toInt < ((N2 + 1 : Nat) : Int)) (h_v2_l3 : R32 (0) (3) v2_l3) : TotP (f_X12_isSeat_J38 k2_ v2_l3) (fun (r : Int32) => R32 (0) (1) r) := by
  unfold f_X12_isSeat_J38
  exact hk2 _ (r_w (l' := 0) (h' := 4) (r_add (l := 1) (h := 4) h_v2_l3 (r_n (x := (1 : Int32)) (l := 1) (h := 1) (by decide) (by decide)) (by decide) (by decide) (by decide) (by decide)) (by decide) (by decide)) (ms_up (y := (1 : Int32)) h_v2_l3 (by decide) (by decide) (by decide) hm2)
theorem t_f_X12_isSeat_L2 {k1 : Int32} {k2 : Int32} {m_z : TX12_z} {q_q : TX11_q} (h_k1 : R32 (1) (31) k1) (h_k2 : R32 (0) (4) k2) (h_q_q_1 : R32 (2) (8) q_q.1) (h_q_q_2_1 : R32 (1) (9) q_q.2.1) (h_q_q_2_2_2_2_1 : R32 (1) (4) q_q.2.2.2.2.1) (h_q_q_2_2_2_2_2_1 : R32 (0) (5) q_q.2.2.2.2.2.1) (h_q_q_2_2_2_2_2_2_1 : R32 (0) (6) q_q.2.2.2.2.2.2.1) (h_q_q_2_2_2_2_2_2_2_1 : R32 (0) (6) q_q.2.2.2.2.2.2.2.1) : ∀ (n : Nat) (v2_l3 : Int32), R32 (0) (4) v2_l3 → (4 : Int) - v2_l3.toInt < (n : Int) → TotP (f_X12_isSeat_L2 k1 k2 m_z q_q n v2_l3) (fun (r : Int32) => R32 (0) (1) r) := by
  intro n
  induction n with
  | zero =>
    intro v2_l3 h_v2_l3 hm
    exact (ms_0u h_v2_l3 hm).elim
  | succ n ih =>
    intro v2_l3 h_v2_l3 hm
    rw [f_X12_isSeat_L2]
    refine tp_if (fun c1 => ?_) (fun c1 => ?_)
    · skip
      exact tp_s (r_w (l' := 0) (h' := 1) (r_n (x := (1 : Int32)) (l := 1) (h := 1) (by decide) (by decide)) (by decide) (by decide))
    · skip
      have r2 : R32 (1) (4) k2 := r_nle1 (by decide) h_k2 h_v2_l3 c1
      have r3 : R32 (0) (3) v2_l3 := r_nle2 (by decide) h_k2 h_v2_l3 c1
      refine tp_e (f_X12_bit.eq_1 _ _) ?_
      refine tp_nif (fun c4 => ?_) (fun c4 => ?_)
      · skip
        have r5 : R32 (1) (1) ((k1 >>> (v2_l3 &&& (31 : Int32))) &&& (1 : Int32)) := r_eq1 (l := 1) (h := 1) (by decide) (by decide) r_and1 (r_n (x := (1 : Int32)) (l := 1) (h := 1) (by decide) (by decide)) c4
        refine tp_nl ?_
        refine tp_iff (d_ne2 (r_n (x := (1 : Int32)) (l := 1) (h := 1) (by decide) (by decide)) (r_n (x := (0 : Int32)) (l := 0) (h := 0) (by decide) (by decide)) (by decide)) ?_
        refine tp_g r2 (by decide) (by decide) ?_
        refine tp_g r3 (by decide) (by decide) ?_
        refine tp_b (t_f_X12_areTangled (r_w (l' := 0) (h' := 4) r2 (by decide) (by decide)) (r_w (l' := 0) (h' := 4) r3 (by decide) (by decide)) h_q_q_1 h_q_q_2_1 h_q_q_2_2_2_2_1 h_q_q_2_2_2_2_2_1 h_q_q_2_2_2_2_2_2_1 h_q_q_2_2_2_2_2_2_2_1) (fun o30 h6 => ?_)
        refine tp_if (fun c7 => ?_) (fun c7 => ?_)
        · skip
          have r8 : R32 (0) (0) o30 := r_eq1 (l := 0) (h := 0) (by decide) (by decide) h6 (r_n (x := (0 : Int32)) (l := 0) (h := 0) (by decide) (by decide)) c7
          exact t_f_X12_isSeat_J38 ih hm r3
        · skip
          have r9 : R32 (1) (1) o30 := r_neL (by decide) h6 (r_n (x := (0 : Int32)) (l := 0) (h := 0) (by decide) (by decide)) c7
          exact tp_s (r_w (l' := 0) (h' := 1) (r_n (x := (0 : Int32)) (l := 0) (h := 0) (by decide) (by decide)) (by decide) (by decide))
      · skip
        have r10 : R32 (0) (0) ((k1 >>> (v2_l3 &&& (31 : Int32))) &&& (1 : Int32)) := r_neH (by decide) r_and1 (r_n (x := (1 : Int32)) (l := 1) (h := 1) (by decide) (by decide)) c4
        refine tp_nl ?_
        refine tp_ift (d_eq (r_n (x := (0 : Int32)) (l := 0) (h := 0) (by decide) (by decide)) (r_n (x := (0 : Int32)) (l := 0) (h := 0) (by decide) (by decide))) ?_
        exact t_f_X12_isSeat_J38 ih hm r3
theorem t_f_X12_isSeat {k1 : Int32} {k2 : Int32} {m_z : TX12_z} {q_q : TX11_q} (h_k1 : R32 (1) (31) k1) (h_k2 : R32 (0) (4) k2) (h_q_q_1 : R32 (2) (8) q_q.1) (h_q_q_2_1 : R32 (1) (9) q_q.2.1) (h_q_q_2_2_2_2_1 : R32 (1) (4) q_q.2.2.2.2.1) (h_q_q_2_2_2_2_2_1 : R32 (0) (5) q_q.2.2.2.2.2.1) (h_q_q_2_2_2_2_2_2_1 : R32 (0) (6) q_q.2.2.2.2.2.2.1) (h_q_q_2_2_2_2_2_2_2_1 : R32 (0) (6) q_q.2.2.2.2.2.2.2.1) : TotP (f_X12_isSeat k1 k2 m_z q_q) (fun (r : Int32) => R32 (0) (1) r) := by
  unfold f_X12_isSeat
  exact t_f_X12_isSeat_L2 h_k1 h_k2 h_q_q_1 h_q_q_2_1 h_q_q_2_2_2_2_1 h_q_q_2_2_2_2_2_1 h_q_q_2_2_2_2_2_2_1 h_q_q_2_2_2_2_2_2_2_1 FU _ (r_w (l' := 0) (h' := 4) (r_n (x := (0 : Int32)) (l := 0) (h := 0) (by decide) (by decide)) (by decide) (by decide)) (fu_up (r_w (l' := 0) (h' := 4) (r_n (x := (0 : Int32)) (l := 0) (h := 0) (by decide) (by decide)) (by decide) (by decide)) (by decide))
theorem t_f_X12_lastIn_J22 {v4_l3 : Int32} (h_v4_l3 : R32 (-1) (3) v4_l3) : TotP (f_X12_lastIn_J22 v4_l3) (fun (r : Int32) => R32 (-1) (3) r) := by
  unfold f_X12_lastIn_J22
  exact tp_s h_v4_l3
theorem t_f_X12_lastIn_L4 {k1 : Int32} (h_k1 : R32 (1) (31) k1) : ∀ (n : Nat) (v4_l3 : Int32), R32 (-1) (3) v4_l3 → v4_l3.toInt - (-1 : Int) < (n : Int) → TotP (f_X12_lastIn_L4 k1 n v4_l3) (fun (r : Int32) => R32 (-1) (3) r) := by
  intro n
  induction n with
  | zero =>
    intro v4_l3 h_v4_l3 hm
    exact (ms_0d h_v4_l3 hm).elim
  | succ n ih =>
    intro v4_l3 h_v4_l3 hm
    rw [f_X12_lastIn_L4]
    refine tp_if (fun c1 => ?_) (fun c1 => ?_)
    · skip
      have r2 : R32 (-1) (-1) v4_l3 := r_lt1 (by decide) h_v4_l3 (r_n (x := (0 : Int32)) (l := 0) (h := 0) (by decide) (by decide)) c1
      exact t_f_X12_lastIn_J22 (r_w (l' := -1) (h' := 3) r2 (by decide) (by decide))
    · skip
      have r3 : R32 (0) (3) v4_l3 := r_nlt1 h_v4_l3 (r_n (x := (0 : Int32)) (l := 0) (h := 0) (by decide) (by decide)) c1
      refine tp_e (f_X12_bit.eq_1 _ _) ?_
      refine tp_nif (fun c4 => ?_) (fun c4 => ?_)
      · skip
        have r5 : R32 (1) (1) ((k1 >>> (v4_l3 &&& (31 : Int32))) &&& (1 : Int32)) := r_eq1 (l := 1) (h := 1) (by decide) (by decide) r_and1 (r_n (x := (1 : Int32)) (l := 1) (h := 1) (by decide) (by decide)) c4
        refine tp_nl ?_
        refine tp_iff (d_ne2 (r_n (x := (1 : Int32)) (l := 1) (h := 1) (by decide) (by decide)) (r_n (x := (0 : Int32)) (l := 0) (h := 0) (by decide) (by decide)) (by decide)) ?_
        exact t_f_X12_lastIn_J22 (r_w (l' := -1) (h' := 3) r3 (by decide) (by decide))
      · skip
        have r6 : R32 (0) (0) ((k1 >>> (v4_l3 &&& (31 : Int32))) &&& (1 : Int32)) := r_neH (by decide) r_and1 (r_n (x := (1 : Int32)) (l := 1) (h := 1) (by decide) (by decide)) c4
        refine tp_nl ?_
        refine tp_ift (d_eq (r_n (x := (0 : Int32)) (l := 0) (h := 0) (by decide) (by decide)) (r_n (x := (0 : Int32)) (l := 0) (h := 0) (by decide) (by decide))) ?_
        exact ih _ (r_w (l' := -1) (h' := 3) (r_add (l := -1) (h := 2) r3 (r_n (x := (-1 : Int32)) (l := -1) (h := -1) (by decide) (by decide)) (by decide) (by decide) (by decide) (by decide)) (by decide) (by decide)) (ms_dn (y := (-1 : Int32)) r3 (by decide) (by decide) (by decide) hm)
theorem t_f_X12_lastIn {k1 : Int32} {k2 : Int32} (h_k1 : R32 (1) (31) k1) (h_k2 : R32 (0) (4) k2) : TotP (f_X12_lastIn k1 k2) (fun (r : Int32) => R32 (-1) (3) r) := by
  unfold f_X12_lastIn
  exact t_f_X12_lastIn_L4 h_k1 FU _ (r_sub (l := -1) (h := 3) h_k2 (r_n (x := (1 : Int32)) (l := 1) (h := 1) (by decide) (by decide)) (by decide) (by decide) (by decide) (by decide)) (fu_dn (r_sub (l := -1) (h := 3) h_k2 (r_n (x := (1 : Int32)) (l := 1) (h := 1) (by decide) (by decide)) (by decide) (by decide) (by decide) (by decide)) (by decide))
theorem t_f_X12_seat_J46 {m_t : TX12_t} {o24 : TX12_z} {v46_t1 : Int32} : TotP (f_X12_seat_J46 m_t o24 v46_t1) (fun (r : Int32 × TX12_t × TX12_z) => R32 (0) (0) r.2.1.1 ∧ R32 (0) (1) r.2.1.2.1 ∧ R32 (-1) (-1) r.2.1.2.2) := by
  unfold f_X12_seat_J46
  refine tp_e (f_X12_good.eq_1 _ _) ?_
  refine tp_nl ?_
  exact tp_s ⟨(r_n (x := (0 : Int32)) (l := 0) (h := 0) (by decide) (by decide)), (r_w (l' := 0) (h' := 1) (r_n (x := (0 : Int32)) (l := 0) (h := 0) (by decide) (by decide)) (by decide) (by decide)), (r_n (x := (-1 : Int32)) (l := -1) (h := -1) (by decide) (by decide))⟩
theorem t_f_X12_mostSeated_J58 {k22_ : Int32 → Int32 → TX12_z → Option (Int32 × TX12_t × TX12_z)} {v22_l2 : Int32} {v58_l1 : Int32} {v58_m_z : TX12_z} {N22 : Nat} (hk22 : ∀ (v22_l2 : Int32) (v22_l1 : Int32) (v22_m_z : TX12_z), R32 (1) (32) v22_l2 → R32 (0) (31) v22_l1 → (32 : Int) - v22_l2.toInt < (N22 : Nat) → TotP (k22_ v22_l2 v22_l1 v22_m_z) (fun (r : Int32 × TX12_t × TX12_z) => R32 (0) (31) r.1 ∧ R32 (0) (0) r.2.1.1 ∧ R32 (0) (0) r.2.1.2.1 ∧ R32 (-1) (-1) r.2.1.2.2)) (hm22 : (32 : Int) - v22_l2.toInt < ((N22 + 1 : Nat) : Int)) (h_v22_l2 : R32 (1) (31) v22_l2) (h_v58_l1 : R32 (0) (31) v58_l1) : TotP (f_X12_mostSeated_J58 k22_ v22_l2 v58_l1 v58_m_z) (fun (r : Int32 × TX12_t × TX12_z) => R32 (0) (31) r.1 ∧ R32 (0) (0) r.2.1.1 ∧ R32 (0) (0) r.2.1.2.1 ∧ R32 (-1) (-1) r.2.1.2.2) := by
  unfold f_X12_mostSeated_J58
  exact hk22 _ _ _ (r_w (l' := 1) (h' := 32) (r_add (l := 2) (h := 32) h_v22_l2 (r_n (x := (1 : Int32)) (l := 1) (h := 1) (by decide) (by decide)) (by decide) (by decide) (by decide) (by decide)) (by decide) (by decide)) h_v58_l1 (ms_up (y := (1 : Int32)) h_v22_l2 (by decide) (by decide) (by decide) hm22)
theorem t_f_X11_wrongBite_J66 {k3_ : Int32 → Option Int32} {v3_l4 : Int32} {v50_t0 : Int32} {v66_t1 : Int32} {N3 : Nat} (hk3 : ∀ (v3_l4 : Int32), R32 (0) (6) v3_l4 → (6 : Int) - v3_l4.toInt < (N3 : Nat) → TotP (k3_ v3_l4) (fun (r : Int32) => R32 (-2) (5) r)) (hm3 : (6 : Int) - v3_l4.toInt < ((N3 + 1 : Nat) : Int)) (h_v3_l4 : R32 (0) (5) v3_l4) (h_v50_t0 : R32 (0) (1) v50_t0) (h_v66_t1 : R32 (0) (1) v66_t1) : TotP (f_X11_wrongBite_J66 k3_ v3_l4 v50_t0 v66_t1) (fun (r : Int32) => R32 (-2) (5) r) := by
  unfold f_X11_wrongBite_J66
  refine tp_if (fun c1 => ?_) (fun c1 => ?_)
  · skip
    exact hk3 _ (r_w (l' := 0) (h' := 6) (r_add (l := 1) (h := 6) h_v3_l4 (r_n (x := (1 : Int32)) (l := 1) (h := 1) (by decide) (by decide)) (by decide) (by decide) (by decide) (by decide)) (by decide) (by decide)) (ms_up (y := (1 : Int32)) h_v3_l4 (by decide) (by decide) (by decide) hm3)
  · skip
    exact tp_s (r_w (l' := -2) (h' := 5) h_v3_l4 (by decide) (by decide))
theorem t_f_X11_wrongBite_J50 {q_q : TX11_q} {k3_ : Int32 → Option Int32} {v3_l4 : Int32} {v50_t0 : Int32} (h_q_q_1 : R32 (2) (8) q_q.1) (h_q_q_2_1 : R32 (1) (9) q_q.2.1) (h_q_q_2_2_2_2_1 : R32 (1) (4) q_q.2.2.2.2.1) (h_q_q_2_2_2_2_2_1 : R32 (0) (5) q_q.2.2.2.2.2.1) (h_q_q_2_2_2_2_2_2_1 : R32 (0) (6) q_q.2.2.2.2.2.2.1) (h_q_q_2_2_2_2_2_2_2_1 : R32 (1) (6) q_q.2.2.2.2.2.2.2.1) {N3 : Nat} (hk3 : ∀ (v3_l4 : Int32), R32 (0) (6) v3_l4 → (6 : Int) - v3_l4.toInt < (N3 : Nat) → TotP (k3_ v3_l4) (fun (r : Int32) => R32 (-2) (5) r)) (hm3 : (6 : Int) - v3_l4.toInt < ((N3 + 1 : Nat) : Int)) (h_v3_l4 : R32 (0) (5) v3_l4) (h_v50_t0 : R32 (0) (1) v50_t0) : TotP (f_X11_wrongBite_J50 q_q k3_ v3_l4 v50_t0) (fun (r : Int32) => R32 (-2) (5) r) := by
  unfold f_X11_wrongBite_J50
  refine tp_g h_v3_l4 (by decide) (by decide) ?_
  refine tp_n0 (fun z56 => ?_)
  refine tp_if (fun c1 => ?_) (fun c1 => ?_)
  · skip
    have r2 : R32 (1) (1) z56 := r_eq1 (l := 1) (h := 1) (by decide) (by decide) (r_top _) (r_n (x := (1 : Int32)) (l := 1) (h := 1) (by decide) (by decide)) c1
    exact t_f_X11_wrongBite_J66 hk3 hm3 h_v3_l4 h_v50_t0 (r_w (l' := 0) (h' := 1) (r_n (x := (1 : Int32)) (l := 1) (h := 1) (by decide) (by decide)) (by decide) (by decide))
  · skip
    exact t_f_X11_wrongBite_J66 hk3 hm3 h_v3_l4 h_v50_t0 (r_w (l' := 0) (h' := 1) (r_n (x := (0 : Int32)) (l := 0) (h := 0) (by decide) (by decide)) (by decide) (by decide))
theorem t_f_X11_wrongBite_L3 {k1 : Int32} {k2 : Int32} {k3 : Int32} {q_q : TX11_q} (h_q_q_1 : R32 (2) (8) q_q.1) (h_q_q_2_1 : R32 (1) (9) q_q.2.1) (h_q_q_2_2_2_2_1 : R32 (1) (4) q_q.2.2.2.2.1) (h_q_q_2_2_2_2_2_1 : R32 (0) (5) q_q.2.2.2.2.2.1) (h_q_q_2_2_2_2_2_2_1 : R32 (0) (6) q_q.2.2.2.2.2.2.1) (h_q_q_2_2_2_2_2_2_2_1 : R32 (0) (6) q_q.2.2.2.2.2.2.2.1) : ∀ (n : Nat) (v3_l4 : Int32), R32 (0) (6) v3_l4 → (6 : Int) - v3_l4.toInt < (n : Int) → TotP (f_X11_wrongBite_L3 k1 k2 k3 q_q n v3_l4) (fun (r : Int32) => R32 (-2) (5) r) := by
  intro n
  induction n with
  | zero =>
    intro v3_l4 h_v3_l4 hm
    exact (ms_0u h_v3_l4 hm).elim
  | succ n ih =>
    intro v3_l4 h_v3_l4 hm
    rw [f_X11_wrongBite_L3]
    refine tp_if (fun c1 => ?_) (fun c1 => ?_)
    · skip
      exact tp_s (r_w (l' := -2) (h' := 5) (r_n (x := (-2 : Int32)) (l := -2) (h := -2) (by decide) (by decide)) (by decide) (by decide))
    · skip
      have r2 : R32 (1) (6) q_q.2.2.2.2.2.2.2.1 := r_nle1 (by decide) h_q_q_2_2_2_2_2_2_2_1 h_v3_l4 c1
      have r3 : R32 (0) (5) v3_l4 := r_nle2 (by decide) h_q_q_2_2_2_2_2_2_2_1 h_v3_l4 c1
      refine tp_g r3 (by decide) (by decide) ?_
      refine tp_n0 (fun z22 => ?_)
      refine tp_g r3 (by decide) (by decide) ?_
      refine tp_n0 (fun z29 => ?_)
      refine tp_g r3 (by decide) (by decide) ?_
      refine tp_n0 (fun z36 => ?_)
      refine tp_e (f_X11_darkWish.eq_1 _ _ _ _ _ _ _) ?_
      refine tp_nif (fun c4 => ?_) (fun c4 => ?_)
      · skip
        refine tp_e (f_X11_darkWish_J16.eq_1 _ _ _ _ _ _) ?_
        refine tp_nn ?_
        refine tp_e (f_X12_apart.eq_1 _ _) ?_
        refine tp_nif (fun c5 => ?_) (fun c5 => ?_)
        · skip
          refine tp_n0 (fun o22 => ?_)
          refine tp_nn ?_
          refine tp_e (f_X12_apart.eq_1 _ _) ?_
          refine tp_nif (fun c6 => ?_) (fun c6 => ?_)
          · skip
            refine tp_n0 (fun o32 => ?_)
            refine tp_nn ?_
            refine tp_n0 (fun z36_7 => ?_)
            refine tp_nn ?_
            refine tp_e (f_X11_cut.eq_1 _) ?_
            refine tp_nif (fun c8 => ?_) (fun c8 => ?_)
            · skip
              have r9 : R32 (0) (2147483647) z36_7 := r_le2 (r_n (x := (0 : Int32)) (l := 0) (h := 0) (by decide) (by decide)) (r_top _) c8
              refine tp_nif (fun c10 => ?_) (fun c10 => ?_)
              · skip
                have r11 : R32 (0) (100) z36_7 := r_le1 r9 (r_n (x := (100 : Int32)) (l := 100) (h := 100) (by decide) (by decide)) c10
                refine tp_nl ?_
                refine tp_nl ?_
                refine tp_if (fun c12 => ?_) (fun c12 => ?_)
                · skip
                  have r13 : R32 (0) (49) z36_7 := r_lt1 (by decide) r11 (r_n (x := (50 : Int32)) (l := 50) (h := 50) (by decide) (by decide)) c12
                  exact t_f_X11_wrongBite_J50 h_q_q_1 h_q_q_2_1 h_q_q_2_2_2_2_1 h_q_q_2_2_2_2_2_1 h_q_q_2_2_2_2_2_2_1 r2 ih hm r3 (r_w (l' := 0) (h' := 1) (r_n (x := (0 : Int32)) (l := 0) (h := 0) (by decide) (by decide)) (by decide) (by decide))
                · skip
                  have r14 : R32 (50) (100) z36_7 := r_nlt1 r11 (r_n (x := (50 : Int32)) (l := 50) (h := 50) (by decide) (by decide)) c12
                  exact t_f_X11_wrongBite_J50 h_q_q_1 h_q_q_2_1 h_q_q_2_2_2_2_1 h_q_q_2_2_2_2_2_1 h_q_q_2_2_2_2_2_2_1 r2 ih hm r3 (r_w (l' := 0) (h' := 1) (r_n (x := (1 : Int32)) (l := 1) (h := 1) (by decide) (by decide)) (by decide) (by decide))
              · skip
                have r15 : R32 (101) (2147483647) z36_7 := r_nle1 (by decide) r9 (r_n (x := (100 : Int32)) (l := 100) (h := 100) (by decide) (by decide)) c10
                refine tp_nl ?_
                refine tp_nl ?_
                refine tp_iff (d_nlt (r_n (x := (100 : Int32)) (l := 100) (h := 100) (by decide) (by decide)) (r_n (x := (50 : Int32)) (l := 50) (h := 50) (by decide) (by decide)) (by decide)) ?_
                exact t_f_X11_wrongBite_J50 h_q_q_1 h_q_q_2_1 h_q_q_2_2_2_2_1 h_q_q_2_2_2_2_2_1 h_q_q_2_2_2_2_2_2_1 r2 ih hm r3 (r_w (l' := 0) (h' := 1) (r_n (x := (1 : Int32)) (l := 1) (h := 1) (by decide) (by decide)) (by decide) (by decide))
            · skip
              have r16 : R32 (-2147483648) (-1) z36_7 := r_nle2 (by decide) (r_n (x := (0 : Int32)) (l := 0) (h := 0) (by decide) (by decide)) (r_top _) c8
              refine tp_nl ?_
              refine tp_nl ?_
              refine tp_ift (d_lt (r_n (x := (0 : Int32)) (l := 0) (h := 0) (by decide) (by decide)) (r_n (x := (50 : Int32)) (l := 50) (h := 50) (by decide) (by decide)) (by decide)) ?_
              exact t_f_X11_wrongBite_J50 h_q_q_1 h_q_q_2_1 h_q_q_2_2_2_2_1 h_q_q_2_2_2_2_2_1 h_q_q_2_2_2_2_2_2_1 r2 ih hm r3 (r_w (l' := 0) (h' := 1) (r_n (x := (0 : Int32)) (l := 0) (h := 0) (by decide) (by decide)) (by decide) (by decide))
          · skip
            have r17 : R32 (-2147483647) (2147483647) z29 := r_nle1 (by decide) (r_top _) (r_top _) c6
            have r18 : R32 (-2147483648) (2147483646) k2 := r_nle2 (by decide) (r_top _) (r_top _) c6
            refine tp_n0 (fun o32 => ?_)
            refine tp_nn ?_
            refine tp_n0 (fun z36_19 => ?_)
            refine tp_nn ?_
            refine tp_e (f_X11_cut.eq_1 _) ?_
            refine tp_nif (fun c20 => ?_) (fun c20 => ?_)
            · skip
              have r21 : R32 (0) (2147483647) z36_19 := r_le2 (r_n (x := (0 : Int32)) (l := 0) (h := 0) (by decide) (by decide)) (r_top _) c20
              refine tp_nif (fun c22 => ?_) (fun c22 => ?_)
              · skip
                have r23 : R32 (0) (100) z36_19 := r_le1 r21 (r_n (x := (100 : Int32)) (l := 100) (h := 100) (by decide) (by decide)) c22
                refine tp_nl ?_
                refine tp_nl ?_
                refine tp_if (fun c24 => ?_) (fun c24 => ?_)
                · skip
                  have r25 : R32 (0) (49) z36_19 := r_lt1 (by decide) r23 (r_n (x := (50 : Int32)) (l := 50) (h := 50) (by decide) (by decide)) c24
                  exact t_f_X11_wrongBite_J50 h_q_q_1 h_q_q_2_1 h_q_q_2_2_2_2_1 h_q_q_2_2_2_2_2_1 h_q_q_2_2_2_2_2_2_1 r2 ih hm r3 (r_w (l' := 0) (h' := 1) (r_n (x := (0 : Int32)) (l := 0) (h := 0) (by decide) (by decide)) (by decide) (by decide))
                · skip
                  have r26 : R32 (50) (100) z36_19 := r_nlt1 r23 (r_n (x := (50 : Int32)) (l := 50) (h := 50) (by decide) (by decide)) c24
                  exact t_f_X11_wrongBite_J50 h_q_q_1 h_q_q_2_1 h_q_q_2_2_2_2_1 h_q_q_2_2_2_2_2_1 h_q_q_2_2_2_2_2_2_1 r2 ih hm r3 (r_w (l' := 0) (h' := 1) (r_n (x := (1 : Int32)) (l := 1) (h := 1) (by decide) (by decide)) (by decide) (by decide))
              · skip
                have r27 : R32 (101) (2147483647) z36_19 := r_nle1 (by decide) r21 (r_n (x := (100 : Int32)) (l := 100) (h := 100) (by decide) (by decide)) c22
                refine tp_nl ?_
                refine tp_nl ?_
                refine tp_iff (d_nlt (r_n (x := (100 : Int32)) (l := 100) (h := 100) (by decide) (by decide)) (r_n (x := (50 : Int32)) (l := 50) (h := 50) (by decide) (by decide)) (by decide)) ?_
                exact t_f_X11_wrongBite_J50 h_q_q_1 h_q_q_2_1 h_q_q_2_2_2_2_1 h_q_q_2_2_2_2_2_1 h_q_q_2_2_2_2_2_2_1 r2 ih hm r3 (r_w (l' := 0) (h' := 1) (r_n (x := (1 : Int32)) (l := 1) (h := 1) (by decide) (by decide)) (by decide) (by decide))
            · skip
              have r28 : R32 (-2147483648) (-1) z36_19 := r_nle2 (by decide) (r_n (x := (0 : Int32)) (l := 0) (h := 0) (by decide) (by decide)) (r_top _) c20
              refine tp_nl ?_
              refine tp_nl ?_
              refine tp_ift (d_lt (r_n (x := (0 : Int32)) (l := 0) (h := 0) (by decide) (by decide)) (r_n (x := (50 : Int32)) (l := 50) (h := 50) (by decide) (by decide)) (by decide)) ?_
              exact t_f_X11_wrongBite_J50 h_q_q_1 h_q_q_2_1 h_q_q_2_2_2_2_1 h_q_q_2_2_2_2_2_1 h_q_q_2_2_2_2_2_2_1 r2 ih hm r3 (r_w (l' := 0) (h' := 1) (r_n (x := (0 : Int32)) (l := 0) (h := 0) (by decide) (by decide)) (by decide) (by decide))
        · skip
          have r29 : R32 (-2147483647) (2147483647) z22 := r_nle1 (by decide) (r_top _) (r_top _) c5
          have r30 : R32 (-2147483648) (2147483646) k1 := r_nle2 (by decide) (r_top _) (r_top _) c5
          refine tp_n0 (fun o22 => ?_)
          refine tp_nn ?_
          refine tp_e (f_X12_apart.eq_1 _ _) ?_
          refine tp_nif (fun c32 => ?_) (fun c32 => ?_)
          · skip
            refine tp_n0 (fun o32_31 => ?_)
            refine tp_nn ?_
            refine tp_n0 (fun z36_33 => ?_)
            refine tp_nn ?_
            refine tp_e (f_X11_cut.eq_1 _) ?_
            refine tp_nif (fun c34 => ?_) (fun c34 => ?_)
            · skip
              have r35 : R32 (0) (2147483647) z36_33 := r_le2 (r_n (x := (0 : Int32)) (l := 0) (h := 0) (by decide) (by decide)) (r_top _) c34
              refine tp_nif (fun c36 => ?_) (fun c36 => ?_)
              · skip
                have r37 : R32 (0) (100) z36_33 := r_le1 r35 (r_n (x := (100 : Int32)) (l := 100) (h := 100) (by decide) (by decide)) c36
                refine tp_nl ?_
                refine tp_nl ?_
                refine tp_if (fun c38 => ?_) (fun c38 => ?_)
                · skip
                  have r39 : R32 (0) (49) z36_33 := r_lt1 (by decide) r37 (r_n (x := (50 : Int32)) (l := 50) (h := 50) (by decide) (by decide)) c38
                  exact t_f_X11_wrongBite_J50 h_q_q_1 h_q_q_2_1 h_q_q_2_2_2_2_1 h_q_q_2_2_2_2_2_1 h_q_q_2_2_2_2_2_2_1 r2 ih hm r3 (r_w (l' := 0) (h' := 1) (r_n (x := (0 : Int32)) (l := 0) (h := 0) (by decide) (by decide)) (by decide) (by decide))
                · skip
                  have r40 : R32 (50) (100) z36_33 := r_nlt1 r37 (r_n (x := (50 : Int32)) (l := 50) (h := 50) (by decide) (by decide)) c38
                  exact t_f_X11_wrongBite_J50 h_q_q_1 h_q_q_2_1 h_q_q_2_2_2_2_1 h_q_q_2_2_2_2_2_1 h_q_q_2_2_2_2_2_2_1 r2 ih hm r3 (r_w (l' := 0) (h' := 1) (r_n (x := (1 : Int32)) (l := 1) (h := 1) (by decide) (by decide)) (by decide) (by decide))
              · skip
                have r41 : R32 (101) (2147483647) z36_33 := r_nle1 (by decide) r35 (r_n (x := (100 : Int32)) (l := 100) (h := 100) (by decide) (by decide)) c36
                refine tp_nl ?_
                refine tp_nl ?_
                refine tp_iff (d_nlt (r_n (x := (100 : Int32)) (l := 100) (h := 100) (by decide) (by decide)) (r_n (x := (50 : Int32)) (l := 50) (h := 50) (by decide) (by decide)) (by decide)) ?_
                exact t_f_X11_wrongBite_J50 h_q_q_1 h_q_q_2_1 h_q_q_2_2_2_2_1 h_q_q_2_2_2_2_2_1 h_q_q_2_2_2_2_2_2_1 r2 ih hm r3 (r_w (l' := 0) (h' := 1) (r_n (x := (1 : Int32)) (l := 1) (h := 1) (by decide) (by decide)) (by decide) (by decide))
            · skip
              have r42 : R32 (-2147483648) (-1) z36_33 := r_nle2 (by decide) (r_n (x := (0 : Int32)) (l := 0) (h := 0) (by decide) (by decide)) (r_top _) c34
              refine tp_nl ?_
              refine tp_nl ?_
              refine tp_ift (d_lt (r_n (x := (0 : Int32)) (l := 0) (h := 0) (by decide) (by decide)) (r_n (x := (50 : Int32)) (l := 50) (h := 50) (by decide) (by decide)) (by decide)) ?_
              exact t_f_X11_wrongBite_J50 h_q_q_1 h_q_q_2_1 h_q_q_2_2_2_2_1 h_q_q_2_2_2_2_2_1 h_q_q_2_2_2_2_2_2_1 r2 ih hm r3 (r_w (l' := 0) (h' := 1) (r_n (x := (0 : Int32)) (l := 0) (h := 0) (by decide) (by decide)) (by decide) (by decide))
          · skip
            have r43 : R32 (-2147483647) (2147483647) z29 := r_nle1 (by decide) (r_top _) (r_top _) c32
            have r44 : R32 (-2147483648) (2147483646) k2 := r_nle2 (by decide) (r_top _) (r_top _) c32
            refine tp_n0 (fun o32_31 => ?_)
            refine tp_nn ?_
            refine tp_n0 (fun z36_45 => ?_)
            refine tp_nn ?_
            refine tp_e (f_X11_cut.eq_1 _) ?_
            refine tp_nif (fun c46 => ?_) (fun c46 => ?_)
            · skip
              have r47 : R32 (0) (2147483647) z36_45 := r_le2 (r_n (x := (0 : Int32)) (l := 0) (h := 0) (by decide) (by decide)) (r_top _) c46
              refine tp_nif (fun c48 => ?_) (fun c48 => ?_)
              · skip
                have r49 : R32 (0) (100) z36_45 := r_le1 r47 (r_n (x := (100 : Int32)) (l := 100) (h := 100) (by decide) (by decide)) c48
                refine tp_nl ?_
                refine tp_nl ?_
                refine tp_if (fun c50 => ?_) (fun c50 => ?_)
                · skip
                  have r51 : R32 (0) (49) z36_45 := r_lt1 (by decide) r49 (r_n (x := (50 : Int32)) (l := 50) (h := 50) (by decide) (by decide)) c50
                  exact t_f_X11_wrongBite_J50 h_q_q_1 h_q_q_2_1 h_q_q_2_2_2_2_1 h_q_q_2_2_2_2_2_1 h_q_q_2_2_2_2_2_2_1 r2 ih hm r3 (r_w (l' := 0) (h' := 1) (r_n (x := (0 : Int32)) (l := 0) (h := 0) (by decide) (by decide)) (by decide) (by decide))
                · skip
                  have r52 : R32 (50) (100) z36_45 := r_nlt1 r49 (r_n (x := (50 : Int32)) (l := 50) (h := 50) (by decide) (by decide)) c50
                  exact t_f_X11_wrongBite_J50 h_q_q_1 h_q_q_2_1 h_q_q_2_2_2_2_1 h_q_q_2_2_2_2_2_1 h_q_q_2_2_2_2_2_2_1 r2 ih hm r3 (r_w (l' := 0) (h' := 1) (r_n (x := (1 : Int32)) (l := 1) (h := 1) (by decide) (by decide)) (by decide) (by decide))
              · skip
                have r53 : R32 (101) (2147483647) z36_45 := r_nle1 (by decide) r47 (r_n (x := (100 : Int32)) (l := 100) (h := 100) (by decide) (by decide)) c48
                refine tp_nl ?_
                refine tp_nl ?_
                refine tp_iff (d_nlt (r_n (x := (100 : Int32)) (l := 100) (h := 100) (by decide) (by decide)) (r_n (x := (50 : Int32)) (l := 50) (h := 50) (by decide) (by decide)) (by decide)) ?_
                exact t_f_X11_wrongBite_J50 h_q_q_1 h_q_q_2_1 h_q_q_2_2_2_2_1 h_q_q_2_2_2_2_2_1 h_q_q_2_2_2_2_2_2_1 r2 ih hm r3 (r_w (l' := 0) (h' := 1) (r_n (x := (1 : Int32)) (l := 1) (h := 1) (by decide) (by decide)) (by decide) (by decide))
            · skip
              have r54 : R32 (-2147483648) (-1) z36_45 := r_nle2 (by decide) (r_n (x := (0 : Int32)) (l := 0) (h := 0) (by decide) (by decide)) (r_top _) c46
              refine tp_nl ?_
              refine tp_nl ?_
              refine tp_ift (d_lt (r_n (x := (0 : Int32)) (l := 0) (h := 0) (by decide) (by decide)) (r_n (x := (50 : Int32)) (l := 50) (h := 50) (by decide) (by decide)) (by decide)) ?_
              exact t_f_X11_wrongBite_J50 h_q_q_1 h_q_q_2_1 h_q_q_2_2_2_2_1 h_q_q_2_2_2_2_2_1 h_q_q_2_2_2_2_2_2_1 r2 ih hm r3 (r_w (l' := 0) (h' := 1) (r_n (x := (0 : Int32)) (l := 0) (h := 0) (by decide) (by decide)) (by decide) (by decide))
      · skip
        refine tp_e (f_X11_darkWish_J16.eq_1 _ _ _ _ _ _) ?_
        refine tp_nn ?_
        refine tp_e (f_X12_apart.eq_1 _ _) ?_
        refine tp_nif (fun c56 => ?_) (fun c56 => ?_)
        · skip
          refine tp_n0 (fun o22_55 => ?_)
          refine tp_nn ?_
          refine tp_e (f_X12_apart.eq_1 _ _) ?_
          refine tp_nif (fun c58 => ?_) (fun c58 => ?_)
          · skip
            refine tp_n0 (fun o32_57 => ?_)
            refine tp_nn ?_
            refine tp_n0 (fun z36_59 => ?_)
            refine tp_nn ?_
            refine tp_e (f_X11_cut.eq_1 _) ?_
            refine tp_nif (fun c60 => ?_) (fun c60 => ?_)
            · skip
              have r61 : R32 (0) (2147483647) z36_59 := r_le2 (r_n (x := (0 : Int32)) (l := 0) (h := 0) (by decide) (by decide)) (r_top _) c60
              refine tp_nif (fun c62 => ?_) (fun c62 => ?_)
              · skip
                have r63 : R32 (0) (100) z36_59 := r_le1 r61 (r_n (x := (100 : Int32)) (l := 100) (h := 100) (by decide) (by decide)) c62
                refine tp_nl ?_
                refine tp_nl ?_
                refine tp_if (fun c64 => ?_) (fun c64 => ?_)
                · skip
                  have r65 : R32 (0) (49) z36_59 := r_lt1 (by decide) r63 (r_n (x := (50 : Int32)) (l := 50) (h := 50) (by decide) (by decide)) c64
                  exact t_f_X11_wrongBite_J50 h_q_q_1 h_q_q_2_1 h_q_q_2_2_2_2_1 h_q_q_2_2_2_2_2_1 h_q_q_2_2_2_2_2_2_1 r2 ih hm r3 (r_w (l' := 0) (h' := 1) (r_n (x := (0 : Int32)) (l := 0) (h := 0) (by decide) (by decide)) (by decide) (by decide))
                · skip
                  have r66 : R32 (50) (100) z36_59 := r_nlt1 r63 (r_n (x := (50 : Int32)) (l := 50) (h := 50) (by decide) (by decide)) c64
                  exact t_f_X11_wrongBite_J50 h_q_q_1 h_q_q_2_1 h_q_q_2_2_2_2_1 h_q_q_2_2_2_2_2_1 h_q_q_2_2_2_2_2_2_1 r2 ih hm r3 (r_w (l' := 0) (h' := 1) (r_n (x := (1 : Int32)) (l := 1) (h := 1) (by decide) (by decide)) (by decide) (by decide))
              · skip
                have r67 : R32 (101) (2147483647) z36_59 := r_nle1 (by decide) r61 (r_n (x := (100 : Int32)) (l := 100) (h := 100) (by decide) (by decide)) c62
                refine tp_nl ?_
                refine tp_nl ?_
                refine tp_iff (d_nlt (r_n (x := (100 : Int32)) (l := 100) (h := 100) (by decide) (by decide)) (r_n (x := (50 : Int32)) (l := 50) (h := 50) (by decide) (by decide)) (by decide)) ?_
                exact t_f_X11_wrongBite_J50 h_q_q_1 h_q_q_2_1 h_q_q_2_2_2_2_1 h_q_q_2_2_2_2_2_1 h_q_q_2_2_2_2_2_2_1 r2 ih hm r3 (r_w (l' := 0) (h' := 1) (r_n (x := (1 : Int32)) (l := 1) (h := 1) (by decide) (by decide)) (by decide) (by decide))
            · skip
              have r68 : R32 (-2147483648) (-1) z36_59 := r_nle2 (by decide) (r_n (x := (0 : Int32)) (l := 0) (h := 0) (by decide) (by decide)) (r_top _) c60
              refine tp_nl ?_
              refine tp_nl ?_
              refine tp_ift (d_lt (r_n (x := (0 : Int32)) (l := 0) (h := 0) (by decide) (by decide)) (r_n (x := (50 : Int32)) (l := 50) (h := 50) (by decide) (by decide)) (by decide)) ?_
              exact t_f_X11_wrongBite_J50 h_q_q_1 h_q_q_2_1 h_q_q_2_2_2_2_1 h_q_q_2_2_2_2_2_1 h_q_q_2_2_2_2_2_2_1 r2 ih hm r3 (r_w (l' := 0) (h' := 1) (r_n (x := (0 : Int32)) (l := 0) (h := 0) (by decide) (by decide)) (by decide) (by decide))
          · skip
            have r69 : R32 (-2147483647) (2147483647) z29 := r_nle1 (by decide) (r_top _) (r_top _) c58
            have r70 : R32 (-2147483648) (2147483646) k2 := r_nle2 (by decide) (r_top _) (r_top _) c58
            refine tp_n0 (fun o32_57 => ?_)
            refine tp_nn ?_
            refine tp_n0 (fun z36_71 => ?_)
            refine tp_nn ?_
            refine tp_e (f_X11_cut.eq_1 _) ?_
            refine tp_nif (fun c72 => ?_) (fun c72 => ?_)
            · skip
              have r73 : R32 (0) (2147483647) z36_71 := r_le2 (r_n (x := (0 : Int32)) (l := 0) (h := 0) (by decide) (by decide)) (r_top _) c72
              refine tp_nif (fun c74 => ?_) (fun c74 => ?_)
              · skip
                have r75 : R32 (0) (100) z36_71 := r_le1 r73 (r_n (x := (100 : Int32)) (l := 100) (h := 100) (by decide) (by decide)) c74
                refine tp_nl ?_
                refine tp_nl ?_
                refine tp_if (fun c76 => ?_) (fun c76 => ?_)
                · skip
                  have r77 : R32 (0) (49) z36_71 := r_lt1 (by decide) r75 (r_n (x := (50 : Int32)) (l := 50) (h := 50) (by decide) (by decide)) c76
                  exact t_f_X11_wrongBite_J50 h_q_q_1 h_q_q_2_1 h_q_q_2_2_2_2_1 h_q_q_2_2_2_2_2_1 h_q_q_2_2_2_2_2_2_1 r2 ih hm r3 (r_w (l' := 0) (h' := 1) (r_n (x := (0 : Int32)) (l := 0) (h := 0) (by decide) (by decide)) (by decide) (by decide))
                · skip
                  have r78 : R32 (50) (100) z36_71 := r_nlt1 r75 (r_n (x := (50 : Int32)) (l := 50) (h := 50) (by decide) (by decide)) c76
                  exact t_f_X11_wrongBite_J50 h_q_q_1 h_q_q_2_1 h_q_q_2_2_2_2_1 h_q_q_2_2_2_2_2_1 h_q_q_2_2_2_2_2_2_1 r2 ih hm r3 (r_w (l' := 0) (h' := 1) (r_n (x := (1 : Int32)) (l := 1) (h := 1) (by decide) (by decide)) (by decide) (by decide))
              · skip
                have r79 : R32 (101) (2147483647) z36_71 := r_nle1 (by decide) r73 (r_n (x := (100 : Int32)) (l := 100) (h := 100) (by decide) (by decide)) c74
                refine tp_nl ?_
                refine tp_nl ?_
                refine tp_iff (d_nlt (r_n (x := (100 : Int32)) (l := 100) (h := 100) (by decide) (by decide)) (r_n (x := (50 : Int32)) (l := 50) (h := 50) (by decide) (by decide)) (by decide)) ?_
                exact t_f_X11_wrongBite_J50 h_q_q_1 h_q_q_2_1 h_q_q_2_2_2_2_1 h_q_q_2_2_2_2_2_1 h_q_q_2_2_2_2_2_2_1 r2 ih hm r3 (r_w (l' := 0) (h' := 1) (r_n (x := (1 : Int32)) (l := 1) (h := 1) (by decide) (by decide)) (by decide) (by decide))
            · skip
              have r80 : R32 (-2147483648) (-1) z36_71 := r_nle2 (by decide) (r_n (x := (0 : Int32)) (l := 0) (h := 0) (by decide) (by decide)) (r_top _) c72
              refine tp_nl ?_
              refine tp_nl ?_
              refine tp_ift (d_lt (r_n (x := (0 : Int32)) (l := 0) (h := 0) (by decide) (by decide)) (r_n (x := (50 : Int32)) (l := 50) (h := 50) (by decide) (by decide)) (by decide)) ?_
              exact t_f_X11_wrongBite_J50 h_q_q_1 h_q_q_2_1 h_q_q_2_2_2_2_1 h_q_q_2_2_2_2_2_1 h_q_q_2_2_2_2_2_2_1 r2 ih hm r3 (r_w (l' := 0) (h' := 1) (r_n (x := (0 : Int32)) (l := 0) (h := 0) (by decide) (by decide)) (by decide) (by decide))
        · skip
          have r81 : R32 (-2147483647) (2147483647) z22 := r_nle1 (by decide) (r_top _) (r_top _) c56
          have r82 : R32 (-2147483648) (2147483646) k1 := r_nle2 (by decide) (r_top _) (r_top _) c56
          refine tp_n0 (fun o22_55 => ?_)
          refine tp_nn ?_
          refine tp_e (f_X12_apart.eq_1 _ _) ?_
          refine tp_nif (fun c84 => ?_) (fun c84 => ?_)
          · skip
            refine tp_n0 (fun o32_83 => ?_)
            refine tp_nn ?_
            refine tp_n0 (fun z36_85 => ?_)
            refine tp_nn ?_
            refine tp_e (f_X11_cut.eq_1 _) ?_
            refine tp_nif (fun c86 => ?_) (fun c86 => ?_)
            · skip
              have r87 : R32 (0) (2147483647) z36_85 := r_le2 (r_n (x := (0 : Int32)) (l := 0) (h := 0) (by decide) (by decide)) (r_top _) c86
              refine tp_nif (fun c88 => ?_) (fun c88 => ?_)
              · skip
                have r89 : R32 (0) (100) z36_85 := r_le1 r87 (r_n (x := (100 : Int32)) (l := 100) (h := 100) (by decide) (by decide)) c88
                refine tp_nl ?_
                refine tp_nl ?_
                refine tp_if (fun c90 => ?_) (fun c90 => ?_)
                · skip
                  have r91 : R32 (0) (49) z36_85 := r_lt1 (by decide) r89 (r_n (x := (50 : Int32)) (l := 50) (h := 50) (by decide) (by decide)) c90
                  exact t_f_X11_wrongBite_J50 h_q_q_1 h_q_q_2_1 h_q_q_2_2_2_2_1 h_q_q_2_2_2_2_2_1 h_q_q_2_2_2_2_2_2_1 r2 ih hm r3 (r_w (l' := 0) (h' := 1) (r_n (x := (0 : Int32)) (l := 0) (h := 0) (by decide) (by decide)) (by decide) (by decide))
                · skip
                  have r92 : R32 (50) (100) z36_85 := r_nlt1 r89 (r_n (x := (50 : Int32)) (l := 50) (h := 50) (by decide) (by decide)) c90
                  exact t_f_X11_wrongBite_J50 h_q_q_1 h_q_q_2_1 h_q_q_2_2_2_2_1 h_q_q_2_2_2_2_2_1 h_q_q_2_2_2_2_2_2_1 r2 ih hm r3 (r_w (l' := 0) (h' := 1) (r_n (x := (1 : Int32)) (l := 1) (h := 1) (by decide) (by decide)) (by decide) (by decide))
              · skip
                have r93 : R32 (101) (2147483647) z36_85 := r_nle1 (by decide) r87 (r_n (x := (100 : Int32)) (l := 100) (h := 100) (by decide) (by decide)) c88
                refine tp_nl ?_
                refine tp_nl ?_
                refine tp_iff (d_nlt (r_n (x := (100 : Int32)) (l := 100) (h := 100) (by decide) (by decide)) (r_n (x := (50 : Int32)) (l := 50) (h := 50) (by decide) (by decide)) (by decide)) ?_
                exact t_f_X11_wrongBite_J50 h_q_q_1 h_q_q_2_1 h_q_q_2_2_2_2_1 h_q_q_2_2_2_2_2_1 h_q_q_2_2_2_2_2_2_1 r2 ih hm r3 (r_w (l' := 0) (h' := 1) (r_n (x := (1 : Int32)) (l := 1) (h := 1) (by decide) (by decide)) (by decide) (by decide))
            · skip
              have r94 : R32 (-2147483648) (-1) z36_85 := r_nle2 (by decide) (r_n (x := (0 : Int32)) (l := 0) (h := 0) (by decide) (by decide)) (r_top _) c86
              refine tp_nl ?_
              refine tp_nl ?_
              refine tp_ift (d_lt (r_n (x := (0 : Int32)) (l := 0) (h := 0) (by decide) (by decide)) (r_n (x := (50 : Int32)) (l := 50) (h := 50) (by decide) (by decide)) (by decide)) ?_
              exact t_f_X11_wrongBite_J50 h_q_q_1 h_q_q_2_1 h_q_q_2_2_2_2_1 h_q_q_2_2_2_2_2_1 h_q_q_2_2_2_2_2_2_1 r2 ih hm r3 (r_w (l' := 0) (h' := 1) (r_n (x := (0 : Int32)) (l := 0) (h := 0) (by decide) (by decide)) (by decide) (by decide))
          · skip
            have r95 : R32 (-2147483647) (2147483647) z29 := r_nle1 (by decide) (r_top _) (r_top _) c84
            have r96 : R32 (-2147483648) (2147483646) k2 := r_nle2 (by decide) (r_top _) (r_top _) c84
            refine tp_n0 (fun o32_83 => ?_)
            refine tp_nn ?_
            refine tp_n0 (fun z36_97 => ?_)
            refine tp_nn ?_
            refine tp_e (f_X11_cut.eq_1 _) ?_
            refine tp_nif (fun c98 => ?_) (fun c98 => ?_)
            · skip
              have r99 : R32 (0) (2147483647) z36_97 := r_le2 (r_n (x := (0 : Int32)) (l := 0) (h := 0) (by decide) (by decide)) (r_top _) c98
              refine tp_nif (fun c100 => ?_) (fun c100 => ?_)
              · skip
                have r101 : R32 (0) (100) z36_97 := r_le1 r99 (r_n (x := (100 : Int32)) (l := 100) (h := 100) (by decide) (by decide)) c100
                refine tp_nl ?_
                refine tp_nl ?_
                refine tp_if (fun c102 => ?_) (fun c102 => ?_)
                · skip
                  have r103 : R32 (0) (49) z36_97 := r_lt1 (by decide) r101 (r_n (x := (50 : Int32)) (l := 50) (h := 50) (by decide) (by decide)) c102
                  exact t_f_X11_wrongBite_J50 h_q_q_1 h_q_q_2_1 h_q_q_2_2_2_2_1 h_q_q_2_2_2_2_2_1 h_q_q_2_2_2_2_2_2_1 r2 ih hm r3 (r_w (l' := 0) (h' := 1) (r_n (x := (0 : Int32)) (l := 0) (h := 0) (by decide) (by decide)) (by decide) (by decide))
                · skip
                  have r104 : R32 (50) (100) z36_97 := r_nlt1 r101 (r_n (x := (50 : Int32)) (l := 50) (h := 50) (by decide) (by decide)) c102
                  exact t_f_X11_wrongBite_J50 h_q_q_1 h_q_q_2_1 h_q_q_2_2_2_2_1 h_q_q_2_2_2_2_2_1 h_q_q_2_2_2_2_2_2_1 r2 ih hm r3 (r_w (l' := 0) (h' := 1) (r_n (x := (1 : Int32)) (l := 1) (h := 1) (by decide) (by decide)) (by decide) (by decide))
              · skip
                have r105 : R32 (101) (2147483647) z36_97 := r_nle1 (by decide) r99 (r_n (x := (100 : Int32)) (l := 100) (h := 100) (by decide) (by decide)) c100
                refine tp_nl ?_
                refine tp_nl ?_
                refine tp_iff (d_nlt (r_n (x := (100 : Int32)) (l := 100) (h := 100) (by decide) (by decide)) (r_n (x := (50 : Int32)) (l := 50) (h := 50) (by decide) (by decide)) (by decide)) ?_
                exact t_f_X11_wrongBite_J50 h_q_q_1 h_q_q_2_1 h_q_q_2_2_2_2_1 h_q_q_2_2_2_2_2_1 h_q_q_2_2_2_2_2_2_1 r2 ih hm r3 (r_w (l' := 0) (h' := 1) (r_n (x := (1 : Int32)) (l := 1) (h := 1) (by decide) (by decide)) (by decide) (by decide))
            · skip
              have r106 : R32 (-2147483648) (-1) z36_97 := r_nle2 (by decide) (r_n (x := (0 : Int32)) (l := 0) (h := 0) (by decide) (by decide)) (r_top _) c98
              refine tp_nl ?_
              refine tp_nl ?_
              refine tp_ift (d_lt (r_n (x := (0 : Int32)) (l := 0) (h := 0) (by decide) (by decide)) (r_n (x := (50 : Int32)) (l := 50) (h := 50) (by decide) (by decide)) (by decide)) ?_
              exact t_f_X11_wrongBite_J50 h_q_q_1 h_q_q_2_1 h_q_q_2_2_2_2_1 h_q_q_2_2_2_2_2_1 h_q_q_2_2_2_2_2_2_1 r2 ih hm r3 (r_w (l' := 0) (h' := 1) (r_n (x := (0 : Int32)) (l := 0) (h := 0) (by decide) (by decide)) (by decide) (by decide))
theorem t_f_X11_wrongBite {k1 : Int32} {k2 : Int32} {k3 : Int32} {q_q : TX11_q} (h_q_q_1 : R32 (2) (8) q_q.1) (h_q_q_2_1 : R32 (1) (9) q_q.2.1) (h_q_q_2_2_2_2_1 : R32 (1) (4) q_q.2.2.2.2.1) (h_q_q_2_2_2_2_2_1 : R32 (0) (5) q_q.2.2.2.2.2.1) (h_q_q_2_2_2_2_2_2_1 : R32 (0) (6) q_q.2.2.2.2.2.2.1) (h_q_q_2_2_2_2_2_2_2_1 : R32 (0) (6) q_q.2.2.2.2.2.2.2.1) : TotP (f_X11_wrongBite k1 k2 k3 q_q) (fun (r : Int32) => R32 (-2) (5) r) := by
  unfold f_X11_wrongBite
  exact t_f_X11_wrongBite_L3 h_q_q_1 h_q_q_2_1 h_q_q_2_2_2_2_1 h_q_q_2_2_2_2_2_1 h_q_q_2_2_2_2_2_2_1 h_q_q_2_2_2_2_2_2_2_1 FU _ (r_w (l' := 0) (h' := 6) (r_n (x := (0 : Int32)) (l := 0) (h := 0) (by decide) (by decide)) (by decide) (by decide)) (fu_up (r_w (l' := 0) (h' := 6) (r_n (x := (0 : Int32)) (l := 0) (h := 0) (by decide) (by decide)) (by decide) (by decide)) (by decide))
theorem t_f_X12_isDark {k1 : Int32} {q_q : TX11_q} (h_k1 : R32 (0) (287) k1) (h_q_q_1 : R32 (2) (8) q_q.1) (h_q_q_2_1 : R32 (1) (9) q_q.2.1) (h_q_q_2_2_2_2_1 : R32 (1) (4) q_q.2.2.2.2.1) (h_q_q_2_2_2_2_2_1 : R32 (0) (5) q_q.2.2.2.2.2.1) (h_q_q_2_2_2_2_2_2_1 : R32 (0) (6) q_q.2.2.2.2.2.2.1) (h_q_q_2_2_2_2_2_2_2_1 : R32 (0) (6) q_q.2.2.2.2.2.2.2.1) : TotP (f_X12_isDark k1 q_q) (fun (r : Int32) => R32 (0) (1) r) := by
  unfold f_X12_isDark
  refine tp_b (t_f_X12_spotOf h_q_q_1 h_q_q_2_1 h_q_q_2_2_2_2_1 h_q_q_2_2_2_2_2_1 h_q_q_2_2_2_2_2_2_1 h_q_q_2_2_2_2_2_2_2_1) (fun o6 h1 => ?_)
  refine tp_b (t_f_X12_fathomsOf h_q_q_1 h_q_q_2_1 h_q_q_2_2_2_2_1 h_q_q_2_2_2_2_2_1 h_q_q_2_2_2_2_2_2_1 h_q_q_2_2_2_2_2_2_2_1) (fun o11 h2 => ?_)
  refine tp_b (t_f_X12_baitOf h_q_q_1 h_q_q_2_1 h_q_q_2_2_2_2_1 h_q_q_2_2_2_2_2_1 h_q_q_2_2_2_2_2_2_1 h_q_q_2_2_2_2_2_2_2_1) (fun o16 h3 => ?_)
  refine tp_b (t_f_X11_wrongBite h_q_q_1 h_q_q_2_1 h_q_q_2_2_2_2_1 h_q_q_2_2_2_2_2_1 h_q_q_2_2_2_2_2_2_1 h_q_q_2_2_2_2_2_2_2_1) (fun o19 h4 => ?_)
  refine tp_if (fun c5 => ?_) (fun c5 => ?_)
  · skip
    have r6 : R32 (-2) (-2) o19 := r_eq1 (l := -2) (h := -2) (by decide) (by decide) h4 (r_n (x := (-2 : Int32)) (l := -2) (h := -2) (by decide) (by decide)) c5
    exact tp_s (r_w (l' := 0) (h' := 1) (r_n (x := (1 : Int32)) (l := 1) (h := 1) (by decide) (by decide)) (by decide) (by decide))
  · skip
    have r7 : R32 (-1) (5) o19 := r_neL (by decide) h4 (r_n (x := (-2 : Int32)) (l := -2) (h := -2) (by decide) (by decide)) c5
    exact tp_s (r_w (l' := 0) (h' := 1) (r_n (x := (0 : Int32)) (l := 0) (h := 0) (by decide) (by decide)) (by decide) (by decide))
theorem t_f_X12_darks_J49 {k24_ : Int32 → Int32 → Option (Int32 × TX12_t)} {v24_l2 : Int32} {v24_l3 : Int32} {v49_t1 : Int32} {N24 : Nat} (hk24 : ∀ (v24_l3 : Int32) (v24_l2 : Int32), R32 (0) (288) v24_l3 → (288 : Int) - v24_l3.toInt < (N24 : Nat) → TotP (k24_ v24_l3 v24_l2) (fun (r : Int32 × TX12_t) => R32 (0) (0) r.2.1 ∧ R32 (0) (6) r.2.2.1 ∧ R32 (-1) (-1) r.2.2.2)) (hm24 : (288 : Int) - v24_l3.toInt < ((N24 + 1 : Nat) : Int)) (h_v24_l3 : R32 (0) (287) v24_l3) (h_v49_t1 : R32 (0) (1) v49_t1) : TotP (f_X12_darks_J49 k24_ v24_l2 v24_l3 v49_t1) (fun (r : Int32 × TX12_t) => R32 (0) (0) r.2.1 ∧ R32 (0) (6) r.2.2.1 ∧ R32 (-1) (-1) r.2.2.2) := by
  unfold f_X12_darks_J49
  exact hk24 _ _ (r_w (l' := 0) (h' := 288) (r_add (l := 1) (h := 288) h_v24_l3 (r_n (x := (1 : Int32)) (l := 1) (h := 1) (by decide) (by decide)) (by decide) (by decide) (by decide) (by decide)) (by decide) (by decide)) (ms_up (y := (1 : Int32)) h_v24_l3 (by decide) (by decide) (by decide) hm24)
theorem t_f_X12_darks_L24 {m_t : TX12_t} {q_q : TX11_q} (h_q_q_1 : R32 (2) (8) q_q.1) (h_q_q_2_1 : R32 (1) (9) q_q.2.1) (h_q_q_2_2_2_2_1 : R32 (1) (4) q_q.2.2.2.2.1) (h_q_q_2_2_2_2_2_1 : R32 (0) (5) q_q.2.2.2.2.2.1) (h_q_q_2_2_2_2_2_2_1 : R32 (0) (6) q_q.2.2.2.2.2.2.1) (h_q_q_2_2_2_2_2_2_2_1 : R32 (0) (6) q_q.2.2.2.2.2.2.2.1) : ∀ (n : Nat) (v24_l3 : Int32) (v24_l2 : Int32), R32 (0) (288) v24_l3 → (288 : Int) - v24_l3.toInt < (n : Int) → TotP (f_X12_darks_L24 m_t q_q n v24_l3 v24_l2) (fun (r : Int32 × TX12_t) => R32 (0) (0) r.2.1 ∧ R32 (0) (6) r.2.2.1 ∧ R32 (-1) (-1) r.2.2.2) := by
  intro n
  induction n with
  | zero =>
    intro v24_l3 v24_l2 h_v24_l3 hm
    exact (ms_0u h_v24_l3 hm).elim
  | succ n ih =>
    intro v24_l3 v24_l2 h_v24_l3 hm
    rw [f_X12_darks_L24]
    refine tp_e (f_X11_questions.eq_1 _) ?_
    refine tp_n (P := fun z => R32 (2) (288) z) (r_mul (l := 2) (h := 288) (r_mul (l := 2) (h := 72) h_q_q_1 h_q_q_2_1 (by decide) (by decide) (by decide) (by decide) (by decide)) h_q_q_2_2_2_2_1 (by decide) (by decide) (by decide) (by decide) (by decide)) (fun o29 h1 => ?_)
    refine tp_if (fun c2 => ?_) (fun c2 => ?_)
    · skip
      have r3 : R32 (2) (288) v24_l3 := r_le2 h1 h_v24_l3 c2
      refine tp_e (f_X12_good.eq_1 _ _) ?_
      refine tp_nl ?_
      exact tp_s ⟨(r_n (x := (0 : Int32)) (l := 0) (h := 0) (by decide) (by decide)), (r_w (l' := 0) (h' := 6) (r_n (x := (0 : Int32)) (l := 0) (h := 0) (by decide) (by decide)) (by decide) (by decide)), (r_n (x := (-1 : Int32)) (l := -1) (h := -1) (by decide) (by decide))⟩
    · skip
      have r4 : R32 (0) (287) v24_l3 := r_nle2 (by decide) h1 h_v24_l3 c2
      refine tp_b (t_f_X12_isDark r4 h_q_q_1 h_q_q_2_1 h_q_q_2_2_2_2_1 h_q_q_2_2_2_2_2_1 h_q_q_2_2_2_2_2_2_1 h_q_q_2_2_2_2_2_2_2_1) (fun o38 h5 => ?_)
      refine tp_if (fun c6 => ?_) (fun c6 => ?_)
      · skip
        have r7 : R32 (0) (0) o38 := r_eq1 (l := 0) (h := 0) (by decide) (by decide) h5 (r_n (x := (0 : Int32)) (l := 0) (h := 0) (by decide) (by decide)) c6
        exact t_f_X12_darks_J49 ih hm r4 (r_w (l' := 0) (h' := 1) (r_n (x := (0 : Int32)) (l := 0) (h := 0) (by decide) (by decide)) (by decide) (by decide))
      · skip
        have r8 : R32 (1) (1) o38 := r_neL (by decide) h5 (r_n (x := (0 : Int32)) (l := 0) (h := 0) (by decide) (by decide)) c6
        exact t_f_X12_darks_J49 ih hm r4 (r_w (l' := 0) (h' := 1) (r_n (x := (1 : Int32)) (l := 1) (h := 1) (by decide) (by decide)) (by decide) (by decide))
theorem t_f_X12_darks {m_t : TX12_t} {q_q : TX11_q} (h_q_q_1 : R32 (2) (8) q_q.1) (h_q_q_2_1 : R32 (1) (9) q_q.2.1) (h_q_q_2_2_2_2_1 : R32 (1) (4) q_q.2.2.2.2.1) (h_q_q_2_2_2_2_2_1 : R32 (0) (5) q_q.2.2.2.2.2.1) (h_q_q_2_2_2_2_2_2_1 : R32 (0) (6) q_q.2.2.2.2.2.2.1) (h_q_q_2_2_2_2_2_2_2_1 : R32 (0) (6) q_q.2.2.2.2.2.2.2.1) : TotP (f_X12_darks m_t q_q) (fun (r : Int32 × TX12_t) => R32 (0) (0) r.2.1 ∧ R32 (0) (6) r.2.2.1 ∧ R32 (-1) (-1) r.2.2.2) := by
  unfold f_X12_darks
  refine tp_e (f_X12_refusesDark.eq_1 _) ?_
  refine tp_nif (fun c1 => ?_) (fun c1 => ?_)
  · skip
    have r2 : R32 (-1) (-1) q_q.2.2.2.2.2.2.2.2.1 := r_eq1 (l := -1) (h := -1) (by decide) (by decide) (r_top _) (r_n (x := (-1 : Int32)) (l := -1) (h := -1) (by decide) (by decide)) c1
    refine tp_nl ?_
    refine tp_iff (d_nle (r_n (x := (6 : Int32)) (l := 6) (h := 6) (by decide) (by decide)) (r_n (x := (0 : Int32)) (l := 0) (h := 0) (by decide) (by decide)) (by decide)) ?_
    refine tp_e (f_X12_refused.eq_1 _ _) ?_
    refine tp_nl ?_
    exact tp_s ⟨(r_n (x := (0 : Int32)) (l := 0) (h := 0) (by decide) (by decide)), (r_w (l' := 0) (h' := 6) (r_n (x := (6 : Int32)) (l := 6) (h := 6) (by decide) (by decide)) (by decide) (by decide)), (r_n (x := (-1 : Int32)) (l := -1) (h := -1) (by decide) (by decide))⟩
  · skip
    refine tp_nl ?_
    refine tp_ift (d_le (r_n (x := (0 : Int32)) (l := 0) (h := 0) (by decide) (by decide)) (r_n (x := (0 : Int32)) (l := 0) (h := 0) (by decide) (by decide)) (by decide)) ?_
    exact t_f_X12_darks_L24 h_q_q_1 h_q_q_2_1 h_q_q_2_2_2_2_1 h_q_q_2_2_2_2_2_1 h_q_q_2_2_2_2_2_2_1 h_q_q_2_2_2_2_2_2_2_1 FU _ _ (r_w (l' := 0) (h' := 288) (r_n (x := (0 : Int32)) (l := 0) (h := 0) (by decide) (by decide)) (by decide) (by decide)) (fu_up (r_w (l' := 0) (h' := 288) (r_n (x := (0 : Int32)) (l := 0) (h := 0) (by decide) (by decide)) (by decide) (by decide)) (by decide))
theorem t_f_X12_darkAt_J68 {k25_ : Int32 → Int32 → Option (Int32 × TX12_t)} {v25_l4 : Int32} {v68_l3 : Int32} {N25 : Nat} (hk25 : ∀ (v25_l4 : Int32) (v25_l3 : Int32), R32 (0) (288) v25_l4 → (288 : Int) - v25_l4.toInt < (N25 : Nat) → TotP (k25_ v25_l4 v25_l3) (fun (r : Int32 × TX12_t) => R32 (0) (0) r.2.1 ∧ R32 (0) (6) r.2.2.1 ∧ R32 (-1) (-1) r.2.2.2)) (hm25 : (288 : Int) - v25_l4.toInt < ((N25 + 1 : Nat) : Int)) (h_v25_l4 : R32 (0) (287) v25_l4) : TotP (f_X12_darkAt_J68 k25_ v25_l4 v68_l3) (fun (r : Int32 × TX12_t) => R32 (0) (0) r.2.1 ∧ R32 (0) (6) r.2.2.1 ∧ R32 (-1) (-1) r.2.2.2) := by
  unfold f_X12_darkAt_J68
  exact hk25 _ _ (r_w (l' := 0) (h' := 288) (r_add (l := 1) (h := 288) h_v25_l4 (r_n (x := (1 : Int32)) (l := 1) (h := 1) (by decide) (by decide)) (by decide) (by decide) (by decide) (by decide)) (by decide) (by decide)) (ms_up (y := (1 : Int32)) h_v25_l4 (by decide) (by decide) (by decide) hm25)
theorem t_f_X12_darkAt_L25 {k1 : Int32} {m_t : TX12_t} {q_q : TX11_q} (h_q_q_1 : R32 (2) (8) q_q.1) (h_q_q_2_1 : R32 (1) (9) q_q.2.1) (h_q_q_2_2_2_2_1 : R32 (1) (4) q_q.2.2.2.2.1) (h_q_q_2_2_2_2_2_1 : R32 (0) (5) q_q.2.2.2.2.2.1) (h_q_q_2_2_2_2_2_2_1 : R32 (0) (6) q_q.2.2.2.2.2.2.1) (h_q_q_2_2_2_2_2_2_2_1 : R32 (0) (6) q_q.2.2.2.2.2.2.2.1) : ∀ (n : Nat) (v25_l4 : Int32) (v25_l3 : Int32), R32 (0) (288) v25_l4 → (288 : Int) - v25_l4.toInt < (n : Int) → TotP (f_X12_darkAt_L25 k1 m_t q_q n v25_l4 v25_l3) (fun (r : Int32 × TX12_t) => R32 (0) (0) r.2.1 ∧ R32 (0) (6) r.2.2.1 ∧ R32 (-1) (-1) r.2.2.2) := by
  intro n
  induction n with
  | zero =>
    intro v25_l4 v25_l3 h_v25_l4 hm
    exact (ms_0u h_v25_l4 hm).elim
  | succ n ih =>
    intro v25_l4 v25_l3 h_v25_l4 hm
    rw [f_X12_darkAt_L25]
    refine tp_e (f_X11_questions.eq_1 _) ?_
    refine tp_n (P := fun z => R32 (2) (288) z) (r_mul (l := 2) (h := 288) (r_mul (l := 2) (h := 72) h_q_q_1 h_q_q_2_1 (by decide) (by decide) (by decide) (by decide) (by decide)) h_q_q_2_2_2_2_1 (by decide) (by decide) (by decide) (by decide) (by decide)) (fun o31 h1 => ?_)
    refine tp_if (fun c2 => ?_) (fun c2 => ?_)
    · skip
      have r3 : R32 (2) (288) v25_l4 := r_le2 h1 h_v25_l4 c2
      refine tp_e (f_X12_refused.eq_1 _ _) ?_
      refine tp_nl ?_
      exact tp_s ⟨(r_n (x := (0 : Int32)) (l := 0) (h := 0) (by decide) (by decide)), (r_w (l' := 0) (h' := 6) (r_n (x := (1 : Int32)) (l := 1) (h := 1) (by decide) (by decide)) (by decide) (by decide)), (r_n (x := (-1 : Int32)) (l := -1) (h := -1) (by decide) (by decide))⟩
    · skip
      have r4 : R32 (0) (287) v25_l4 := r_nle2 (by decide) h1 h_v25_l4 c2
      refine tp_b (t_f_X12_isDark r4 h_q_q_1 h_q_q_2_1 h_q_q_2_2_2_2_1 h_q_q_2_2_2_2_2_1 h_q_q_2_2_2_2_2_2_1 h_q_q_2_2_2_2_2_2_2_1) (fun o40 h5 => ?_)
      refine tp_if (fun c6 => ?_) (fun c6 => ?_)
      · skip
        have r7 : R32 (0) (0) o40 := r_eq1 (l := 0) (h := 0) (by decide) (by decide) h5 (r_n (x := (0 : Int32)) (l := 0) (h := 0) (by decide) (by decide)) c6
        exact t_f_X12_darkAt_J68 ih hm r4
      · skip
        have r8 : R32 (1) (1) o40 := r_neL (by decide) h5 (r_n (x := (0 : Int32)) (l := 0) (h := 0) (by decide) (by decide)) c6
        refine tp_if (fun c9 => ?_) (fun c9 => ?_)
        · skip
          refine tp_b (t_f_X12_codeOf (r_w (l' := -1) (h' := 287) r4 (by decide) (by decide)) h_q_q_1 h_q_q_2_1 h_q_q_2_2_2_2_1 h_q_q_2_2_2_2_2_1 h_q_q_2_2_2_2_2_2_1 h_q_q_2_2_2_2_2_2_2_1) (fun o58 h10 => ?_)
          refine tp_e (f_X12_good.eq_1 _ _) ?_
          refine tp_nl ?_
          exact tp_s ⟨(r_n (x := (0 : Int32)) (l := 0) (h := 0) (by decide) (by decide)), (r_w (l' := 0) (h' := 6) (r_n (x := (0 : Int32)) (l := 0) (h := 0) (by decide) (by decide)) (by decide) (by decide)), (r_n (x := (-1 : Int32)) (l := -1) (h := -1) (by decide) (by decide))⟩
        · skip
          exact t_f_X12_darkAt_J68 ih hm r4
theorem t_f_X12_darkAt {k1 : Int32} {m_t : TX12_t} {q_q : TX11_q} (h_q_q_1 : R32 (2) (8) q_q.1) (h_q_q_2_1 : R32 (1) (9) q_q.2.1) (h_q_q_2_2_2_2_1 : R32 (1) (4) q_q.2.2.2.2.1) (h_q_q_2_2_2_2_2_1 : R32 (0) (5) q_q.2.2.2.2.2.1) (h_q_q_2_2_2_2_2_2_1 : R32 (0) (6) q_q.2.2.2.2.2.2.1) (h_q_q_2_2_2_2_2_2_2_1 : R32 (0) (6) q_q.2.2.2.2.2.2.2.1) : TotP (f_X12_darkAt k1 m_t q_q) (fun (r : Int32 × TX12_t) => R32 (0) (0) r.2.1 ∧ R32 (0) (6) r.2.2.1 ∧ R32 (-1) (-1) r.2.2.2) := by
  unfold f_X12_darkAt
  refine tp_e (f_X12_refusesDark.eq_1 _) ?_
  refine tp_nif (fun c1 => ?_) (fun c1 => ?_)
  · skip
    have r2 : R32 (-1) (-1) q_q.2.2.2.2.2.2.2.2.1 := r_eq1 (l := -1) (h := -1) (by decide) (by decide) (r_top _) (r_n (x := (-1 : Int32)) (l := -1) (h := -1) (by decide) (by decide)) c1
    refine tp_nl ?_
    refine tp_iff (d_nle (r_n (x := (6 : Int32)) (l := 6) (h := 6) (by decide) (by decide)) (r_n (x := (0 : Int32)) (l := 0) (h := 0) (by decide) (by decide)) (by decide)) ?_
    refine tp_e (f_X12_refused.eq_1 _ _) ?_
    refine tp_nl ?_
    exact tp_s ⟨(r_n (x := (0 : Int32)) (l := 0) (h := 0) (by decide) (by decide)), (r_w (l' := 0) (h' := 6) (r_n (x := (6 : Int32)) (l := 6) (h := 6) (by decide) (by decide)) (by decide) (by decide)), (r_n (x := (-1 : Int32)) (l := -1) (h := -1) (by decide) (by decide))⟩
  · skip
    refine tp_nl ?_
    refine tp_ift (d_le (r_n (x := (0 : Int32)) (l := 0) (h := 0) (by decide) (by decide)) (r_n (x := (0 : Int32)) (l := 0) (h := 0) (by decide) (by decide)) (by decide)) ?_
    exact t_f_X12_darkAt_L25 h_q_q_1 h_q_q_2_1 h_q_q_2_2_2_2_1 h_q_q_2_2_2_2_2_1 h_q_q_2_2_2_2_2_2_1 h_q_q_2_2_2_2_2_2_2_1 FU _ _ (r_w (l' := 0) (h' := 288) (r_n (x := (0 : Int32)) (l := 0) (h := 0) (by decide) (by decide)) (by decide) (by decide)) (fu_up (r_w (l' := 0) (h' := 288) (r_n (x := (0 : Int32)) (l := 0) (h := 0) (by decide) (by decide)) (by decide) (by decide)) (by decide))
theorem t_f_X12_darkSpots_J55 {k24_ : Int32 → Int32 → Option (Int32 × TX12_t)} {v24_l2 : Int32} {v24_l3 : Int32} {v55_t1 : Int32} {N24 : Nat} (hk24 : ∀ (v24_l3 : Int32) (v24_l2 : Int32), R32 (0) (288) v24_l3 → (288 : Int) - v24_l3.toInt < (N24 : Nat) → TotP (k24_ v24_l3 v24_l2) (fun (r : Int32 × TX12_t) => R32 (0) (0) r.2.1 ∧ R32 (0) (6) r.2.2.1 ∧ R32 (-1) (-1) r.2.2.2)) (hm24 : (288 : Int) - v24_l3.toInt < ((N24 + 1 : Nat) : Int)) (h_v24_l3 : R32 (0) (287) v24_l3) : TotP (f_X12_darkSpots_J55 k24_ v24_l2 v24_l3 v55_t1) (fun (r : Int32 × TX12_t) => R32 (0) (0) r.2.1 ∧ R32 (0) (6) r.2.2.1 ∧ R32 (-1) (-1) r.2.2.2) := by
  unfold f_X12_darkSpots_J55
  exact hk24 _ _ (r_w (l' := 0) (h' := 288) (r_add (l := 1) (h := 288) h_v24_l3 (r_n (x := (1 : Int32)) (l := 1) (h := 1) (by decide) (by decide)) (by decide) (by decide) (by decide) (by decide)) (by decide) (by decide)) (ms_up (y := (1 : Int32)) h_v24_l3 (by decide) (by decide) (by decide) hm24)
theorem t_f_X12_darkSpots_L24 {m_t : TX12_t} {q_q : TX11_q} (h_q_q_1 : R32 (2) (8) q_q.1) (h_q_q_2_1 : R32 (1) (9) q_q.2.1) (h_q_q_2_2_2_2_1 : R32 (1) (4) q_q.2.2.2.2.1) (h_q_q_2_2_2_2_2_1 : R32 (0) (5) q_q.2.2.2.2.2.1) (h_q_q_2_2_2_2_2_2_1 : R32 (0) (6) q_q.2.2.2.2.2.2.1) (h_q_q_2_2_2_2_2_2_2_1 : R32 (0) (6) q_q.2.2.2.2.2.2.2.1) : ∀ (n : Nat) (v24_l3 : Int32) (v24_l2 : Int32), R32 (0) (288) v24_l3 → (288 : Int) - v24_l3.toInt < (n : Int) → TotP (f_X12_darkSpots_L24 m_t q_q n v24_l3 v24_l2) (fun (r : Int32 × TX12_t) => R32 (0) (0) r.2.1 ∧ R32 (0) (6) r.2.2.1 ∧ R32 (-1) (-1) r.2.2.2) := by
  intro n
  induction n with
  | zero =>
    intro v24_l3 v24_l2 h_v24_l3 hm
    exact (ms_0u h_v24_l3 hm).elim
  | succ n ih =>
    intro v24_l3 v24_l2 h_v24_l3 hm
    rw [f_X12_darkSpots_L24]
    refine tp_e (f_X11_questions.eq_1 _) ?_
    refine tp_n (P := fun z => R32 (2) (288) z) (r_mul (l := 2) (h := 288) (r_mul (l := 2) (h := 72) h_q_q_1 h_q_q_2_1 (by decide) (by decide) (by decide) (by decide) (by decide)) h_q_q_2_2_2_2_1 (by decide) (by decide) (by decide) (by decide) (by decide)) (fun o29 h1 => ?_)
    refine tp_if (fun c2 => ?_) (fun c2 => ?_)
    · skip
      have r3 : R32 (2) (288) v24_l3 := r_le2 h1 h_v24_l3 c2
      refine tp_e (f_X12_good.eq_1 _ _) ?_
      refine tp_nl ?_
      exact tp_s ⟨(r_n (x := (0 : Int32)) (l := 0) (h := 0) (by decide) (by decide)), (r_w (l' := 0) (h' := 6) (r_n (x := (0 : Int32)) (l := 0) (h := 0) (by decide) (by decide)) (by decide) (by decide)), (r_n (x := (-1 : Int32)) (l := -1) (h := -1) (by decide) (by decide))⟩
    · skip
      have r4 : R32 (0) (287) v24_l3 := r_nle2 (by decide) h1 h_v24_l3 c2
      refine tp_b (t_f_X12_isDark r4 h_q_q_1 h_q_q_2_1 h_q_q_2_2_2_2_1 h_q_q_2_2_2_2_2_1 h_q_q_2_2_2_2_2_2_1 h_q_q_2_2_2_2_2_2_2_1) (fun o38 h5 => ?_)
      refine tp_if (fun c6 => ?_) (fun c6 => ?_)
      · skip
        have r7 : R32 (0) (0) o38 := r_eq1 (l := 0) (h := 0) (by decide) (by decide) h5 (r_n (x := (0 : Int32)) (l := 0) (h := 0) (by decide) (by decide)) c6
        exact t_f_X12_darkSpots_J55 ih hm r4
      · skip
        have r8 : R32 (1) (1) o38 := r_neL (by decide) h5 (r_n (x := (0 : Int32)) (l := 0) (h := 0) (by decide) (by decide)) c6
        refine tp_b (t_f_X12_spotOf h_q_q_1 h_q_q_2_1 h_q_q_2_2_2_2_1 h_q_q_2_2_2_2_2_1 h_q_q_2_2_2_2_2_2_1 h_q_q_2_2_2_2_2_2_2_1) (fun o47 h9 => ?_)
        exact t_f_X12_darkSpots_J55 ih hm r4
theorem t_f_X12_darkSpots {m_t : TX12_t} {q_q : TX11_q} (h_q_q_1 : R32 (2) (8) q_q.1) (h_q_q_2_1 : R32 (1) (9) q_q.2.1) (h_q_q_2_2_2_2_1 : R32 (1) (4) q_q.2.2.2.2.1) (h_q_q_2_2_2_2_2_1 : R32 (0) (5) q_q.2.2.2.2.2.1) (h_q_q_2_2_2_2_2_2_1 : R32 (0) (6) q_q.2.2.2.2.2.2.1) (h_q_q_2_2_2_2_2_2_2_1 : R32 (0) (6) q_q.2.2.2.2.2.2.2.1) : TotP (f_X12_darkSpots m_t q_q) (fun (r : Int32 × TX12_t) => R32 (0) (0) r.2.1 ∧ R32 (0) (6) r.2.2.1 ∧ R32 (-1) (-1) r.2.2.2) := by
  unfold f_X12_darkSpots
  refine tp_e (f_X12_refusesDark.eq_1 _) ?_
  refine tp_nif (fun c1 => ?_) (fun c1 => ?_)
  · skip
    have r2 : R32 (-1) (-1) q_q.2.2.2.2.2.2.2.2.1 := r_eq1 (l := -1) (h := -1) (by decide) (by decide) (r_top _) (r_n (x := (-1 : Int32)) (l := -1) (h := -1) (by decide) (by decide)) c1
    refine tp_nl ?_
    refine tp_iff (d_nle (r_n (x := (6 : Int32)) (l := 6) (h := 6) (by decide) (by decide)) (r_n (x := (0 : Int32)) (l := 0) (h := 0) (by decide) (by decide)) (by decide)) ?_
    refine tp_e (f_X12_refused.eq_1 _ _) ?_
    refine tp_nl ?_
    exact tp_s ⟨(r_n (x := (0 : Int32)) (l := 0) (h := 0) (by decide) (by decide)), (r_w (l' := 0) (h' := 6) (r_n (x := (6 : Int32)) (l := 6) (h := 6) (by decide) (by decide)) (by decide) (by decide)), (r_n (x := (-1 : Int32)) (l := -1) (h := -1) (by decide) (by decide))⟩
  · skip
    refine tp_nl ?_
    refine tp_ift (d_le (r_n (x := (0 : Int32)) (l := 0) (h := 0) (by decide) (by decide)) (r_n (x := (0 : Int32)) (l := 0) (h := 0) (by decide) (by decide)) (by decide)) ?_
    exact t_f_X12_darkSpots_L24 h_q_q_1 h_q_q_2_1 h_q_q_2_2_2_2_1 h_q_q_2_2_2_2_2_1 h_q_q_2_2_2_2_2_2_1 h_q_q_2_2_2_2_2_2_2_1 FU _ _ (r_w (l' := 0) (h' := 288) (r_n (x := (0 : Int32)) (l := 0) (h := 0) (by decide) (by decide)) (by decide) (by decide)) (fu_up (r_w (l' := 0) (h' := 288) (r_n (x := (0 : Int32)) (l := 0) (h := 0) (by decide) (by decide)) (by decide) (by decide)) (by decide))
theorem t_f_X12_leaves_J85 {k7_ : Int32 → Int32 → Int32 → Option Int32} {v7_l4 : Int32} {v85_l3 : Int32} {v85_l2 : Int32} {N7 : Nat} (hk7 : ∀ (v7_l4 : Int32) (v7_l3 : Int32) (v7_l2 : Int32), R32 (0) (288) v7_l4 → (288 : Int) - v7_l4.toInt < (N7 : Nat) → TotP (k7_ v7_l4 v7_l3 v7_l2) (fun (r : Int32) => True)) (hm7 : (288 : Int) - v7_l4.toInt < ((N7 + 1 : Nat) : Int)) (h_v7_l4 : R32 (0) (287) v7_l4) : TotP (f_X12_leaves_J85 k7_ v7_l4 v85_l3 v85_l2) (fun (r : Int32) => True) := by
  unfold f_X12_leaves_J85
  exact hk7 _ _ _ (r_w (l' := 0) (h' := 288) (r_add (l := 1) (h := 288) h_v7_l4 (r_n (x := (1 : Int32)) (l := 1) (h := 1) (by decide) (by decide)) (by decide) (by decide) (by decide) (by decide)) (by decide) (by decide)) (ms_up (y := (1 : Int32)) h_v7_l4 (by decide) (by decide) (by decide) hm7)
theorem t_f_X12_leaves_L7 {k1 : Int32} {q_q : TX11_q} (h_k1 : R32 (0) (287) k1) (h_q_q_1 : R32 (2) (8) q_q.1) (h_q_q_2_1 : R32 (1) (9) q_q.2.1) (h_q_q_2_2_2_2_1 : R32 (1) (4) q_q.2.2.2.2.1) (h_q_q_2_2_2_2_2_1 : R32 (0) (5) q_q.2.2.2.2.2.1) (h_q_q_2_2_2_2_2_2_1 : R32 (0) (6) q_q.2.2.2.2.2.2.1) (h_q_q_2_2_2_2_2_2_2_1 : R32 (0) (6) q_q.2.2.2.2.2.2.2.1) : ∀ (n : Nat) (v7_l4 : Int32) (v7_l3 : Int32) (v7_l2 : Int32), R32 (0) (288) v7_l4 → (288 : Int) - v7_l4.toInt < (n : Int) → TotP (f_X12_leaves_L7 k1 q_q n v7_l4 v7_l3 v7_l2) (fun (r : Int32) => True) := by
  intro n
  induction n with
  | zero =>
    intro v7_l4 v7_l3 v7_l2 h_v7_l4 hm
    exact (ms_0u h_v7_l4 hm).elim
  | succ n ih =>
    intro v7_l4 v7_l3 v7_l2 h_v7_l4 hm
    rw [f_X12_leaves_L7]
    refine tp_e (f_X11_questions.eq_1 _) ?_
    refine tp_n (P := fun z => R32 (2) (288) z) (r_mul (l := 2) (h := 288) (r_mul (l := 2) (h := 72) h_q_q_1 h_q_q_2_1 (by decide) (by decide) (by decide) (by decide) (by decide)) h_q_q_2_2_2_2_1 (by decide) (by decide) (by decide) (by decide) (by decide)) (fun o13 h1 => ?_)
    refine tp_if (fun c2 => ?_) (fun c2 => ?_)
    · skip
      have r3 : R32 (2) (288) v7_l4 := r_le2 h1 h_v7_l4 c2
      refine tp_if (fun c4 => ?_) (fun c4 => ?_)
      · skip
        exact tp_s trivial
      · skip
        have r5 : R32 (-2147483647) (2147483647) v7_l2 := r_nle1 (by decide) (r_top _) (r_top _) c4
        have r6 : R32 (-2147483648) (2147483646) v7_l3 := r_nle2 (by decide) (r_top _) (r_top _) c4
        exact tp_s trivial
    · skip
      have r7 : R32 (0) (287) v7_l4 := r_nle2 (by decide) h1 h_v7_l4 c2
      refine tp_b (t_f_X12_isDark r7 h_q_q_1 h_q_q_2_1 h_q_q_2_2_2_2_1 h_q_q_2_2_2_2_2_1 h_q_q_2_2_2_2_2_2_1 h_q_q_2_2_2_2_2_2_2_1) (fun o22 h8 => ?_)
      refine tp_if (fun c9 => ?_) (fun c9 => ?_)
      · skip
        have r10 : R32 (0) (0) o22 := r_eq1 (l := 0) (h := 0) (by decide) (by decide) h8 (r_n (x := (0 : Int32)) (l := 0) (h := 0) (by decide) (by decide)) c9
        exact t_f_X12_leaves_J85 ih hm r7
      · skip
        have r11 : R32 (1) (1) o22 := r_neL (by decide) h8 (r_n (x := (0 : Int32)) (l := 0) (h := 0) (by decide) (by decide)) c9
        refine tp_b (t_f_X12_spotOf h_q_q_1 h_q_q_2_1 h_q_q_2_2_2_2_1 h_q_q_2_2_2_2_2_1 h_q_q_2_2_2_2_2_2_1 h_q_q_2_2_2_2_2_2_2_1) (fun o38 h12 => ?_)
        refine tp_b (t_f_X12_fathomsOf h_q_q_1 h_q_q_2_1 h_q_q_2_2_2_2_1 h_q_q_2_2_2_2_2_1 h_q_q_2_2_2_2_2_2_1 h_q_q_2_2_2_2_2_2_2_1) (fun o44 h13 => ?_)
        refine tp_b (t_f_X12_baitOf h_q_q_1 h_q_q_2_1 h_q_q_2_2_2_2_1 h_q_q_2_2_2_2_2_1 h_q_q_2_2_2_2_2_2_1 h_q_q_2_2_2_2_2_2_2_1) (fun o50 h14 => ?_)
        refine tp_b (t_f_X12_spotOf h_q_q_1 h_q_q_2_1 h_q_q_2_2_2_2_1 h_q_q_2_2_2_2_2_1 h_q_q_2_2_2_2_2_2_1 h_q_q_2_2_2_2_2_2_2_1) (fun o55 h15 => ?_)
        refine tp_b (t_f_X12_fathomsOf h_q_q_1 h_q_q_2_1 h_q_q_2_2_2_2_1 h_q_q_2_2_2_2_2_1 h_q_q_2_2_2_2_2_2_1 h_q_q_2_2_2_2_2_2_2_1) (fun o60 h16 => ?_)
        refine tp_b (t_f_X12_baitOf h_q_q_1 h_q_q_2_1 h_q_q_2_2_2_2_1 h_q_q_2_2_2_2_2_1 h_q_q_2_2_2_2_2_2_1 h_q_q_2_2_2_2_2_2_2_1) (fun o65 h17 => ?_)
        refine tp_e (f_X11_darkWish.eq_1 _ _ _ _ _ _ _) ?_
        refine tp_nif (fun c18 => ?_) (fun c18 => ?_)
        · skip
          refine tp_e (f_X11_darkWish_J16.eq_1 _ _ _ _ _ _) ?_
          refine tp_nn ?_
          refine tp_e (f_X12_apart.eq_1 _ _) ?_
          refine tp_nif (fun c20 => ?_) (fun c20 => ?_)
          · skip
            refine tp_n0 (fun o22_19 => ?_)
            refine tp_nn ?_
            refine tp_e (f_X12_apart.eq_1 _ _) ?_
            refine tp_nif (fun c21 => ?_) (fun c21 => ?_)
            · skip
              refine tp_n0 (fun o32 => ?_)
              refine tp_nn ?_
              refine tp_n0 (fun z36 => ?_)
              refine tp_nn ?_
              refine tp_e (f_X11_cut.eq_1 _) ?_
              refine tp_nif (fun c22 => ?_) (fun c22 => ?_)
              · skip
                have r23 : R32 (0) (2147483647) z36 := r_le2 (r_n (x := (0 : Int32)) (l := 0) (h := 0) (by decide) (by decide)) (r_top _) c22
                refine tp_nif (fun c24 => ?_) (fun c24 => ?_)
                · skip
                  have r25 : R32 (0) (100) z36 := r_le1 r23 (r_n (x := (100 : Int32)) (l := 100) (h := 100) (by decide) (by decide)) c24
                  refine tp_nl ?_
                  refine tp_nl ?_
                  refine tp_if (fun c26 => ?_) (fun c26 => ?_)
                  · skip
                    have r27 : R32 (0) (49) z36 := r_lt1 (by decide) r25 (r_n (x := (50 : Int32)) (l := 50) (h := 50) (by decide) (by decide)) c26
                    exact t_f_X12_leaves_J85 ih hm r7
                  · skip
                    have r28 : R32 (50) (100) z36 := r_nlt1 r25 (r_n (x := (50 : Int32)) (l := 50) (h := 50) (by decide) (by decide)) c26
                    exact t_f_X12_leaves_J85 ih hm r7
                · skip
                  have r29 : R32 (101) (2147483647) z36 := r_nle1 (by decide) r23 (r_n (x := (100 : Int32)) (l := 100) (h := 100) (by decide) (by decide)) c24
                  refine tp_nl ?_
                  refine tp_nl ?_
                  refine tp_iff (d_nlt (r_n (x := (100 : Int32)) (l := 100) (h := 100) (by decide) (by decide)) (r_n (x := (50 : Int32)) (l := 50) (h := 50) (by decide) (by decide)) (by decide)) ?_
                  exact t_f_X12_leaves_J85 ih hm r7
              · skip
                have r30 : R32 (-2147483648) (-1) z36 := r_nle2 (by decide) (r_n (x := (0 : Int32)) (l := 0) (h := 0) (by decide) (by decide)) (r_top _) c22
                refine tp_nl ?_
                refine tp_nl ?_
                refine tp_ift (d_lt (r_n (x := (0 : Int32)) (l := 0) (h := 0) (by decide) (by decide)) (r_n (x := (50 : Int32)) (l := 50) (h := 50) (by decide) (by decide)) (by decide)) ?_
                exact t_f_X12_leaves_J85 ih hm r7
            · skip
              have r31 : R32 (-2147483647) (2147483647) o60 := r_nle1 (by decide) (r_top _) (r_top _) c21
              have r32 : R32 (-2147483648) (2147483646) o44 := r_nle2 (by decide) (r_top _) (r_top _) c21
              refine tp_n0 (fun o32 => ?_)
              refine tp_nn ?_
              refine tp_n0 (fun z36_33 => ?_)
              refine tp_nn ?_
              refine tp_e (f_X11_cut.eq_1 _) ?_
              refine tp_nif (fun c34 => ?_) (fun c34 => ?_)
              · skip
                have r35 : R32 (0) (2147483647) z36_33 := r_le2 (r_n (x := (0 : Int32)) (l := 0) (h := 0) (by decide) (by decide)) (r_top _) c34
                refine tp_nif (fun c36 => ?_) (fun c36 => ?_)
                · skip
                  have r37 : R32 (0) (100) z36_33 := r_le1 r35 (r_n (x := (100 : Int32)) (l := 100) (h := 100) (by decide) (by decide)) c36
                  refine tp_nl ?_
                  refine tp_nl ?_
                  refine tp_if (fun c38 => ?_) (fun c38 => ?_)
                  · skip
                    have r39 : R32 (0) (49) z36_33 := r_lt1 (by decide) r37 (r_n (x := (50 : Int32)) (l := 50) (h := 50) (by decide) (by decide)) c38
                    exact t_f_X12_leaves_J85 ih hm r7
                  · skip
                    have r40 : R32 (50) (100) z36_33 := r_nlt1 r37 (r_n (x := (50 : Int32)) (l := 50) (h := 50) (by decide) (by decide)) c38
                    exact t_f_X12_leaves_J85 ih hm r7
                · skip
                  have r41 : R32 (101) (2147483647) z36_33 := r_nle1 (by decide) r35 (r_n (x := (100 : Int32)) (l := 100) (h := 100) (by decide) (by decide)) c36
                  refine tp_nl ?_
                  refine tp_nl ?_
                  refine tp_iff (d_nlt (r_n (x := (100 : Int32)) (l := 100) (h := 100) (by decide) (by decide)) (r_n (x := (50 : Int32)) (l := 50) (h := 50) (by decide) (by decide)) (by decide)) ?_
                  exact t_f_X12_leaves_J85 ih hm r7
              · skip
                have r42 : R32 (-2147483648) (-1) z36_33 := r_nle2 (by decide) (r_n (x := (0 : Int32)) (l := 0) (h := 0) (by decide) (by decide)) (r_top _) c34
                refine tp_nl ?_
                refine tp_nl ?_
                refine tp_ift (d_lt (r_n (x := (0 : Int32)) (l := 0) (h := 0) (by decide) (by decide)) (r_n (x := (50 : Int32)) (l := 50) (h := 50) (by decide) (by decide)) (by decide)) ?_
                exact t_f_X12_leaves_J85 ih hm r7
          · skip
            have r43 : R32 (-2147483647) (2147483647) o55 := r_nle1 (by decide) (r_top _) (r_top _) c20
            have r44 : R32 (-2147483648) (2147483646) o38 := r_nle2 (by decide) (r_top _) (r_top _) c20
            refine tp_n0 (fun o22_19 => ?_)
            refine tp_nn ?_
            refine tp_e (f_X12_apart.eq_1 _ _) ?_
            refine tp_nif (fun c46 => ?_) (fun c46 => ?_)
            · skip
              refine tp_n0 (fun o32_45 => ?_)
              refine tp_nn ?_
              refine tp_n0 (fun z36_47 => ?_)
              refine tp_nn ?_
              refine tp_e (f_X11_cut.eq_1 _) ?_
              refine tp_nif (fun c48 => ?_) (fun c48 => ?_)
              · skip
                have r49 : R32 (0) (2147483647) z36_47 := r_le2 (r_n (x := (0 : Int32)) (l := 0) (h := 0) (by decide) (by decide)) (r_top _) c48
                refine tp_nif (fun c50 => ?_) (fun c50 => ?_)
                · skip
                  have r51 : R32 (0) (100) z36_47 := r_le1 r49 (r_n (x := (100 : Int32)) (l := 100) (h := 100) (by decide) (by decide)) c50
                  refine tp_nl ?_
                  refine tp_nl ?_
                  refine tp_if (fun c52 => ?_) (fun c52 => ?_)
                  · skip
                    have r53 : R32 (0) (49) z36_47 := r_lt1 (by decide) r51 (r_n (x := (50 : Int32)) (l := 50) (h := 50) (by decide) (by decide)) c52
                    exact t_f_X12_leaves_J85 ih hm r7
                  · skip
                    have r54 : R32 (50) (100) z36_47 := r_nlt1 r51 (r_n (x := (50 : Int32)) (l := 50) (h := 50) (by decide) (by decide)) c52
                    exact t_f_X12_leaves_J85 ih hm r7
                · skip
                  have r55 : R32 (101) (2147483647) z36_47 := r_nle1 (by decide) r49 (r_n (x := (100 : Int32)) (l := 100) (h := 100) (by decide) (by decide)) c50
                  refine tp_nl ?_
                  refine tp_nl ?_
                  refine tp_iff (d_nlt (r_n (x := (100 : Int32)) (l := 100) (h := 100) (by decide) (by decide)) (r_n (x := (50 : Int32)) (l := 50) (h := 50) (by decide) (by decide)) (by decide)) ?_
                  exact t_f_X12_leaves_J85 ih hm r7
              · skip
                have r56 : R32 (-2147483648) (-1) z36_47 := r_nle2 (by decide) (r_n (x := (0 : Int32)) (l := 0) (h := 0) (by decide) (by decide)) (r_top _) c48
                refine tp_nl ?_
                refine tp_nl ?_
                refine tp_ift (d_lt (r_n (x := (0 : Int32)) (l := 0) (h := 0) (by decide) (by decide)) (r_n (x := (50 : Int32)) (l := 50) (h := 50) (by decide) (by decide)) (by decide)) ?_
                exact t_f_X12_leaves_J85 ih hm r7
            · skip
              have r57 : R32 (-2147483647) (2147483647) o60 := r_nle1 (by decide) (r_top _) (r_top _) c46
              have r58 : R32 (-2147483648) (2147483646) o44 := r_nle2 (by decide) (r_top _) (r_top _) c46
              refine tp_n0 (fun o32_45 => ?_)
              refine tp_nn ?_
              refine tp_n0 (fun z36_59 => ?_)
              refine tp_nn ?_
              refine tp_e (f_X11_cut.eq_1 _) ?_
              refine tp_nif (fun c60 => ?_) (fun c60 => ?_)
              · skip
                have r61 : R32 (0) (2147483647) z36_59 := r_le2 (r_n (x := (0 : Int32)) (l := 0) (h := 0) (by decide) (by decide)) (r_top _) c60
                refine tp_nif (fun c62 => ?_) (fun c62 => ?_)
                · skip
                  have r63 : R32 (0) (100) z36_59 := r_le1 r61 (r_n (x := (100 : Int32)) (l := 100) (h := 100) (by decide) (by decide)) c62
                  refine tp_nl ?_
                  refine tp_nl ?_
                  refine tp_if (fun c64 => ?_) (fun c64 => ?_)
                  · skip
                    have r65 : R32 (0) (49) z36_59 := r_lt1 (by decide) r63 (r_n (x := (50 : Int32)) (l := 50) (h := 50) (by decide) (by decide)) c64
                    exact t_f_X12_leaves_J85 ih hm r7
                  · skip
                    have r66 : R32 (50) (100) z36_59 := r_nlt1 r63 (r_n (x := (50 : Int32)) (l := 50) (h := 50) (by decide) (by decide)) c64
                    exact t_f_X12_leaves_J85 ih hm r7
                · skip
                  have r67 : R32 (101) (2147483647) z36_59 := r_nle1 (by decide) r61 (r_n (x := (100 : Int32)) (l := 100) (h := 100) (by decide) (by decide)) c62
                  refine tp_nl ?_
                  refine tp_nl ?_
                  refine tp_iff (d_nlt (r_n (x := (100 : Int32)) (l := 100) (h := 100) (by decide) (by decide)) (r_n (x := (50 : Int32)) (l := 50) (h := 50) (by decide) (by decide)) (by decide)) ?_
                  exact t_f_X12_leaves_J85 ih hm r7
              · skip
                have r68 : R32 (-2147483648) (-1) z36_59 := r_nle2 (by decide) (r_n (x := (0 : Int32)) (l := 0) (h := 0) (by decide) (by decide)) (r_top _) c60
                refine tp_nl ?_
                refine tp_nl ?_
                refine tp_ift (d_lt (r_n (x := (0 : Int32)) (l := 0) (h := 0) (by decide) (by decide)) (r_n (x := (50 : Int32)) (l := 50) (h := 50) (by decide) (by decide)) (by decide)) ?_
                exact t_f_X12_leaves_J85 ih hm r7
        · skip
          refine tp_e (f_X11_darkWish_J16.eq_1 _ _ _ _ _ _) ?_
          refine tp_nn ?_
          refine tp_e (f_X12_apart.eq_1 _ _) ?_
          refine tp_nif (fun c70 => ?_) (fun c70 => ?_)
          · skip
            refine tp_n0 (fun o22_69 => ?_)
            refine tp_nn ?_
            refine tp_e (f_X12_apart.eq_1 _ _) ?_
            refine tp_nif (fun c72 => ?_) (fun c72 => ?_)
            · skip
              refine tp_n0 (fun o32_71 => ?_)
              refine tp_nn ?_
              refine tp_n0 (fun z36_73 => ?_)
              refine tp_nn ?_
              refine tp_e (f_X11_cut.eq_1 _) ?_
              refine tp_nif (fun c74 => ?_) (fun c74 => ?_)
              · skip
                have r75 : R32 (0) (2147483647) z36_73 := r_le2 (r_n (x := (0 : Int32)) (l := 0) (h := 0) (by decide) (by decide)) (r_top _) c74
                refine tp_nif (fun c76 => ?_) (fun c76 => ?_)
                · skip
                  have r77 : R32 (0) (100) z36_73 := r_le1 r75 (r_n (x := (100 : Int32)) (l := 100) (h := 100) (by decide) (by decide)) c76
                  refine tp_nl ?_
                  refine tp_nl ?_
                  refine tp_if (fun c78 => ?_) (fun c78 => ?_)
                  · skip
                    have r79 : R32 (0) (49) z36_73 := r_lt1 (by decide) r77 (r_n (x := (50 : Int32)) (l := 50) (h := 50) (by decide) (by decide)) c78
                    exact t_f_X12_leaves_J85 ih hm r7
                  · skip
                    have r80 : R32 (50) (100) z36_73 := r_nlt1 r77 (r_n (x := (50 : Int32)) (l := 50) (h := 50) (by decide) (by decide)) c78
                    exact t_f_X12_leaves_J85 ih hm r7
                · skip
                  have r81 : R32 (101) (2147483647) z36_73 := r_nle1 (by decide) r75 (r_n (x := (100 : Int32)) (l := 100) (h := 100) (by decide) (by decide)) c76
                  refine tp_nl ?_
                  refine tp_nl ?_
                  refine tp_iff (d_nlt (r_n (x := (100 : Int32)) (l := 100) (h := 100) (by decide) (by decide)) (r_n (x := (50 : Int32)) (l := 50) (h := 50) (by decide) (by decide)) (by decide)) ?_
                  exact t_f_X12_leaves_J85 ih hm r7
              · skip
                have r82 : R32 (-2147483648) (-1) z36_73 := r_nle2 (by decide) (r_n (x := (0 : Int32)) (l := 0) (h := 0) (by decide) (by decide)) (r_top _) c74
                refine tp_nl ?_
                refine tp_nl ?_
                refine tp_ift (d_lt (r_n (x := (0 : Int32)) (l := 0) (h := 0) (by decide) (by decide)) (r_n (x := (50 : Int32)) (l := 50) (h := 50) (by decide) (by decide)) (by decide)) ?_
                exact t_f_X12_leaves_J85 ih hm r7
            · skip
              have r83 : R32 (-2147483647) (2147483647) o60 := r_nle1 (by decide) (r_top _) (r_top _) c72
              have r84 : R32 (-2147483648) (2147483646) o44 := r_nle2 (by decide) (r_top _) (r_top _) c72
              refine tp_n0 (fun o32_71 => ?_)
              refine tp_nn ?_
              refine tp_n0 (fun z36_85 => ?_)
              refine tp_nn ?_
              refine tp_e (f_X11_cut.eq_1 _) ?_
              refine tp_nif (fun c86 => ?_) (fun c86 => ?_)
              · skip
                have r87 : R32 (0) (2147483647) z36_85 := r_le2 (r_n (x := (0 : Int32)) (l := 0) (h := 0) (by decide) (by decide)) (r_top _) c86
                refine tp_nif (fun c88 => ?_) (fun c88 => ?_)
                · skip
                  have r89 : R32 (0) (100) z36_85 := r_le1 r87 (r_n (x := (100 : Int32)) (l := 100) (h := 100) (by decide) (by decide)) c88
                  refine tp_nl ?_
                  refine tp_nl ?_
                  refine tp_if (fun c90 => ?_) (fun c90 => ?_)
                  · skip
                    have r91 : R32 (0) (49) z36_85 := r_lt1 (by decide) r89 (r_n (x := (50 : Int32)) (l := 50) (h := 50) (by decide) (by decide)) c90
                    exact t_f_X12_leaves_J85 ih hm r7
                  · skip
                    have r92 : R32 (50) (100) z36_85 := r_nlt1 r89 (r_n (x := (50 : Int32)) (l := 50) (h := 50) (by decide) (by decide)) c90
                    exact t_f_X12_leaves_J85 ih hm r7
                · skip
                  have r93 : R32 (101) (2147483647) z36_85 := r_nle1 (by decide) r87 (r_n (x := (100 : Int32)) (l := 100) (h := 100) (by decide) (by decide)) c88
                  refine tp_nl ?_
                  refine tp_nl ?_
                  refine tp_iff (d_nlt (r_n (x := (100 : Int32)) (l := 100) (h := 100) (by decide) (by decide)) (r_n (x := (50 : Int32)) (l := 50) (h := 50) (by decide) (by decide)) (by decide)) ?_
                  exact t_f_X12_leaves_J85 ih hm r7
              · skip
                have r94 : R32 (-2147483648) (-1) z36_85 := r_nle2 (by decide) (r_n (x := (0 : Int32)) (l := 0) (h := 0) (by decide) (by decide)) (r_top _) c86
                refine tp_nl ?_
                refine tp_nl ?_
                refine tp_ift (d_lt (r_n (x := (0 : Int32)) (l := 0) (h := 0) (by decide) (by decide)) (r_n (x := (50 : Int32)) (l := 50) (h := 50) (by decide) (by decide)) (by decide)) ?_
                exact t_f_X12_leaves_J85 ih hm r7
          · skip
            have r95 : R32 (-2147483647) (2147483647) o55 := r_nle1 (by decide) (r_top _) (r_top _) c70
            have r96 : R32 (-2147483648) (2147483646) o38 := r_nle2 (by decide) (r_top _) (r_top _) c70
            refine tp_n0 (fun o22_69 => ?_)
            refine tp_nn ?_
            refine tp_e (f_X12_apart.eq_1 _ _) ?_
            refine tp_nif (fun c98 => ?_) (fun c98 => ?_)
            · skip
              refine tp_n0 (fun o32_97 => ?_)
              refine tp_nn ?_
              refine tp_n0 (fun z36_99 => ?_)
              refine tp_nn ?_
              refine tp_e (f_X11_cut.eq_1 _) ?_
              refine tp_nif (fun c100 => ?_) (fun c100 => ?_)
              · skip
                have r101 : R32 (0) (2147483647) z36_99 := r_le2 (r_n (x := (0 : Int32)) (l := 0) (h := 0) (by decide) (by decide)) (r_top _) c100
                refine tp_nif (fun c102 => ?_) (fun c102 => ?_)
                · skip
                  have r103 : R32 (0) (100) z36_99 := r_le1 r101 (r_n (x := (100 : Int32)) (l := 100) (h := 100) (by decide) (by decide)) c102
                  refine tp_nl ?_
                  refine tp_nl ?_
                  refine tp_if (fun c104 => ?_) (fun c104 => ?_)
                  · skip
                    have r105 : R32 (0) (49) z36_99 := r_lt1 (by decide) r103 (r_n (x := (50 : Int32)) (l := 50) (h := 50) (by decide) (by decide)) c104
                    exact t_f_X12_leaves_J85 ih hm r7
                  · skip
                    have r106 : R32 (50) (100) z36_99 := r_nlt1 r103 (r_n (x := (50 : Int32)) (l := 50) (h := 50) (by decide) (by decide)) c104
                    exact t_f_X12_leaves_J85 ih hm r7
                · skip
                  have r107 : R32 (101) (2147483647) z36_99 := r_nle1 (by decide) r101 (r_n (x := (100 : Int32)) (l := 100) (h := 100) (by decide) (by decide)) c102
                  refine tp_nl ?_
                  refine tp_nl ?_
                  refine tp_iff (d_nlt (r_n (x := (100 : Int32)) (l := 100) (h := 100) (by decide) (by decide)) (r_n (x := (50 : Int32)) (l := 50) (h := 50) (by decide) (by decide)) (by decide)) ?_
                  exact t_f_X12_leaves_J85 ih hm r7
              · skip
                have r108 : R32 (-2147483648) (-1) z36_99 := r_nle2 (by decide) (r_n (x := (0 : Int32)) (l := 0) (h := 0) (by decide) (by decide)) (r_top _) c100
                refine tp_nl ?_
                refine tp_nl ?_
                refine tp_ift (d_lt (r_n (x := (0 : Int32)) (l := 0) (h := 0) (by decide) (by decide)) (r_n (x := (50 : Int32)) (l := 50) (h := 50) (by decide) (by decide)) (by decide)) ?_
                exact t_f_X12_leaves_J85 ih hm r7
            · skip
              have r109 : R32 (-2147483647) (2147483647) o60 := r_nle1 (by decide) (r_top _) (r_top _) c98
              have r110 : R32 (-2147483648) (2147483646) o44 := r_nle2 (by decide) (r_top _) (r_top _) c98
              refine tp_n0 (fun o32_97 => ?_)
              refine tp_nn ?_
              refine tp_n0 (fun z36_111 => ?_)
              refine tp_nn ?_
              refine tp_e (f_X11_cut.eq_1 _) ?_
              refine tp_nif (fun c112 => ?_) (fun c112 => ?_)
              · skip
                have r113 : R32 (0) (2147483647) z36_111 := r_le2 (r_n (x := (0 : Int32)) (l := 0) (h := 0) (by decide) (by decide)) (r_top _) c112
                refine tp_nif (fun c114 => ?_) (fun c114 => ?_)
                · skip
                  have r115 : R32 (0) (100) z36_111 := r_le1 r113 (r_n (x := (100 : Int32)) (l := 100) (h := 100) (by decide) (by decide)) c114
                  refine tp_nl ?_
                  refine tp_nl ?_
                  refine tp_if (fun c116 => ?_) (fun c116 => ?_)
                  · skip
                    have r117 : R32 (0) (49) z36_111 := r_lt1 (by decide) r115 (r_n (x := (50 : Int32)) (l := 50) (h := 50) (by decide) (by decide)) c116
                    exact t_f_X12_leaves_J85 ih hm r7
                  · skip
                    have r118 : R32 (50) (100) z36_111 := r_nlt1 r115 (r_n (x := (50 : Int32)) (l := 50) (h := 50) (by decide) (by decide)) c116
                    exact t_f_X12_leaves_J85 ih hm r7
                · skip
                  have r119 : R32 (101) (2147483647) z36_111 := r_nle1 (by decide) r113 (r_n (x := (100 : Int32)) (l := 100) (h := 100) (by decide) (by decide)) c114
                  refine tp_nl ?_
                  refine tp_nl ?_
                  refine tp_iff (d_nlt (r_n (x := (100 : Int32)) (l := 100) (h := 100) (by decide) (by decide)) (r_n (x := (50 : Int32)) (l := 50) (h := 50) (by decide) (by decide)) (by decide)) ?_
                  exact t_f_X12_leaves_J85 ih hm r7
              · skip
                have r120 : R32 (-2147483648) (-1) z36_111 := r_nle2 (by decide) (r_n (x := (0 : Int32)) (l := 0) (h := 0) (by decide) (by decide)) (r_top _) c112
                refine tp_nl ?_
                refine tp_nl ?_
                refine tp_ift (d_lt (r_n (x := (0 : Int32)) (l := 0) (h := 0) (by decide) (by decide)) (r_n (x := (50 : Int32)) (l := 50) (h := 50) (by decide) (by decide)) (by decide)) ?_
                exact t_f_X12_leaves_J85 ih hm r7
