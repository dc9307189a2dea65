/-! the functions answer, part 3 -/
theorem t_f_X0_tellingQuestion_L11 {d_d : TX0_d} {p_p : TX6_p} (h_d_d_2 : R32 (0) (288) d_d.2) (h_p_p_1 : R32 (1) (8) p_p.1) (h_p_p_2_1 : R32 (0) (9) p_p.2.1) (h_p_p_2_2_2_2_1 : R32 (0) (4) p_p.2.2.2.2.1) (h_p_p_2_2_2_2_2_1 : R32 (0) (5) p_p.2.2.2.2.2.1) (h_p_p_2_2_2_2_2_2_1 : R32 (0) (6) p_p.2.2.2.2.2.2.1) (h_p_p_2_2_2_2_2_2_2_1 : R32 (0) (6) p_p.2.2.2.2.2.2.2.1) : ∀ (n : Nat) (v11_l4 : Int32) (v11_l3 : Int32) (v11_l2 : Int32), R32 (0) (900) v11_l4 → R32 (-2) (899) v11_l2 → (900 : Int) - v11_l4.toInt < (n : Int) → TotP (f_X0_tellingQuestion_L11 d_d p_p n v11_l4 v11_l3 v11_l2) (fun (r : Int32) => R32 (-2) (899) r) := by
  intro n
  induction n with
  | zero =>
    intro v11_l4 v11_l3 v11_l2 h_v11_l4 h_v11_l2 hm
    exact (ms_0u h_v11_l4 hm).elim
  | succ n ih =>
    intro v11_l4 v11_l3 v11_l2 h_v11_l4 h_v11_l2 hm
    rw [f_X0_tellingQuestion_L11]
    refine tp_e (f_X6_questionBound.eq_1 _) ?_
    refine tp_n (P := fun z => R32 (100) (800) z) (r_mul (l := 100) (h := 800) (r_n (x := (100 : Int32)) (l := 100) (h := 100) (by decide) (by decide)) h_p_p_1 (by decide) (by decide) (by decide) (by decide) (by decide)) (fun o14 h1 => ?_)
    refine tp_if (fun c2 => ?_) (fun c2 => ?_)
    · skip
      have r3 : R32 (100) (900) v11_l4 := r_le2 h1 h_v11_l4 c2
      exact t_f_X0_tellingQuestion_J69 h_v11_l2
    · skip
      have r4 : R32 (0) (799) v11_l4 := r_nle2 (by decide) h1 h_v11_l4 c2
      refine tp_if (fun c5 => ?_) (fun c5 => ?_)
      · skip
        have r6 : R32 (0) (0) d_d.2 := r_le1 h_d_d_2 (r_n (x := (0 : Int32)) (l := 0) (h := 0) (by decide) (by decide)) c5
        exact t_f_X0_tellingQuestion_J69 h_v11_l2
      · skip
        have r7 : R32 (1) (288) d_d.2 := r_nle1 (by decide) h_d_d_2 (r_n (x := (0 : Int32)) (l := 0) (h := 0) (by decide) (by decide)) c5
        refine tp_e (f_X6_hasQuestion.eq_1 _ _) ?_
        refine tp_nn ?_
        refine tp_e (f_X10_spotOf.eq_1 _) ?_
        refine tp_n (P := fun z => R32 (0) (7) z) (r_div (l := 0) (h := 7) r4 (r_n (x := (100 : Int32)) (l := 100) (h := 100) (by decide) (by decide)) (by decide) (by decide) (by decide) (by decide)) (fun o2 h8 => ?_)
        refine tp_nn ?_
        refine tp_e (f_X6_hasSpot.eq_1 _ _) ?_
        refine tp_nn ?_
        refine tp_e (f_X10_within.eq_1 _ _ _) ?_
        refine tp_niff (d_nlt h8 (r_n (x := (0 : Int32)) (l := 0) (h := 0) (by decide) (by decide)) (by decide)) ?_
        refine tp_nif (fun c9 => ?_) (fun c9 => ?_)
        · skip
          have r10 : R32 (0) (6) (p_p.1 - (1 : Int32)) := r_lt1 (by decide) (r_sub (l := 0) (h := 7) h_p_p_1 (r_n (x := (1 : Int32)) (l := 1) (h := 1) (by decide) (by decide)) (by decide) (by decide) (by decide) (by decide)) h8 c9
          have r11 : R32 (1) (7) o2 := r_lt2 (by decide) (r_sub (l := 0) (h := 7) h_p_p_1 (r_n (x := (1 : Int32)) (l := 1) (h := 1) (by decide) (by decide)) (by decide) (by decide) (by decide) (by decide)) h8 c9
          refine tp_nl ?_
          refine tp_nl ?_
          refine tp_nift (d_eq (r_n (x := (0 : Int32)) (l := 0) (h := 0) (by decide) (by decide)) (r_n (x := (0 : Int32)) (l := 0) (h := 0) (by decide) (by decide))) ?_
          refine tp_nl ?_
          refine tp_ift (d_eq (r_n (x := (0 : Int32)) (l := 0) (h := 0) (by decide) (by decide)) (r_n (x := (0 : Int32)) (l := 0) (h := 0) (by decide) (by decide))) ?_
          exact t_f_X0_tellingQuestion_J63 ih hm (r_w (l' := 0) (h' := 899) r4 (by decide) (by decide)) h_v11_l2
        · skip
          refine tp_nl ?_
          refine tp_nl ?_
          refine tp_niff (d_ne2 (r_n (x := (1 : Int32)) (l := 1) (h := 1) (by decide) (by decide)) (r_n (x := (0 : Int32)) (l := 0) (h := 0) (by decide) (by decide)) (by decide)) ?_
          refine tp_nn ?_
          refine tp_e (f_X10_fathomsOf.eq_1 _) ?_
          refine tp_nn ?_
          refine tp_n (P := fun z => R32 (0) (9) z) (r_mod (c := 10) (h := 9) (y := (10 : Int32)) (r_div (l := 0) (h := 79) r4 (r_n (x := (10 : Int32)) (l := 10) (h := 10) (by decide) (by decide)) (by decide) (by decide) (by decide) (by decide)) (by decide) (by decide) (by decide) (by decide)) (fun z6 h12 => ?_)
          refine tp_nl ?_
          refine tp_nn ?_
          refine tp_e (f_X10_within.eq_1 _ _ _) ?_
          refine tp_nif (fun c13 => ?_) (fun c13 => ?_)
          · skip
            have r14 : R32 (0) (0) z6 := r_lt1 (by decide) h12 (r_n (x := (1 : Int32)) (l := 1) (h := 1) (by decide) (by decide)) c13
            refine tp_nl ?_
            refine tp_nift (d_eq (r_n (x := (0 : Int32)) (l := 0) (h := 0) (by decide) (by decide)) (r_n (x := (0 : Int32)) (l := 0) (h := 0) (by decide) (by decide))) ?_
            refine tp_nl ?_
            refine tp_ift (d_eq (r_n (x := (0 : Int32)) (l := 0) (h := 0) (by decide) (by decide)) (r_n (x := (0 : Int32)) (l := 0) (h := 0) (by decide) (by decide))) ?_
            exact t_f_X0_tellingQuestion_J63 ih hm (r_w (l' := 0) (h' := 899) r4 (by decide) (by decide)) h_v11_l2
          · skip
            have r15 : R32 (1) (9) z6 := r_nlt1 h12 (r_n (x := (1 : Int32)) (l := 1) (h := 1) (by decide) (by decide)) c13
            refine tp_nif (fun c16 => ?_) (fun c16 => ?_)
            · skip
              have r17 : R32 (0) (8) p_p.2.1 := r_lt1 (by decide) h_p_p_2_1 r15 c16
              refine tp_nl ?_
              refine tp_nift (d_eq (r_n (x := (0 : Int32)) (l := 0) (h := 0) (by decide) (by decide)) (r_n (x := (0 : Int32)) (l := 0) (h := 0) (by decide) (by decide))) ?_
              refine tp_nl ?_
              refine tp_ift (d_eq (r_n (x := (0 : Int32)) (l := 0) (h := 0) (by decide) (by decide)) (r_n (x := (0 : Int32)) (l := 0) (h := 0) (by decide) (by decide))) ?_
              exact t_f_X0_tellingQuestion_J63 ih hm (r_w (l' := 0) (h' := 899) r4 (by decide) (by decide)) h_v11_l2
            · skip
              have r18 : R32 (1) (9) p_p.2.1 := r_nlt1 h_p_p_2_1 r15 c16
              refine tp_nl ?_
              refine tp_niff (d_ne2 (r_n (x := (1 : Int32)) (l := 1) (h := 1) (by decide) (by decide)) (r_n (x := (0 : Int32)) (l := 0) (h := 0) (by decide) (by decide)) (by decide)) ?_
              refine tp_nn ?_
              refine tp_e (f_X10_baitOf.eq_1 _) ?_
              refine tp_n (P := fun z => R32 (0) (9) z) (r_mod (c := 10) (h := 9) (y := (10 : Int32)) r4 (by decide) (by decide) (by decide) (by decide)) (fun o28 h19 => ?_)
              refine tp_nn ?_
              refine tp_e (f_X6_hasBait.eq_1 _ _) ?_
              refine tp_nn ?_
              refine tp_e (f_X10_within.eq_1 _ _ _) ?_
              refine tp_niff (d_nlt h19 (r_n (x := (0 : Int32)) (l := 0) (h := 0) (by decide) (by decide)) (by decide)) ?_
              refine tp_nif (fun c20 => ?_) (fun c20 => ?_)
              · skip
                refine tp_nl ?_
                refine tp_nl ?_
                refine tp_nift (d_eq (r_n (x := (0 : Int32)) (l := 0) (h := 0) (by decide) (by decide)) (r_n (x := (0 : Int32)) (l := 0) (h := 0) (by decide) (by decide))) ?_
                refine tp_nl ?_
                refine tp_ift (d_eq (r_n (x := (0 : Int32)) (l := 0) (h := 0) (by decide) (by decide)) (r_n (x := (0 : Int32)) (l := 0) (h := 0) (by decide) (by decide))) ?_
                exact t_f_X0_tellingQuestion_J63 ih hm (r_w (l' := 0) (h' := 899) r4 (by decide) (by decide)) h_v11_l2
              · skip
                have r21 : R32 (0) (3) (p_p.2.2.2.2.1 - (1 : Int32)) := r_nlt1 (r_sub (l := -1) (h := 3) h_p_p_2_2_2_2_1 (r_n (x := (1 : Int32)) (l := 1) (h := 1) (by decide) (by decide)) (by decide) (by decide) (by decide) (by decide)) h19 c20
                have r22 : R32 (0) (3) o28 := r_nlt2 (r_sub (l := -1) (h := 3) h_p_p_2_2_2_2_1 (r_n (x := (1 : Int32)) (l := 1) (h := 1) (by decide) (by decide)) (by decide) (by decide) (by decide) (by decide)) h19 c20
                refine tp_nl ?_
                refine tp_nl ?_
                refine tp_niff (d_ne2 (r_n (x := (1 : Int32)) (l := 1) (h := 1) (by decide) (by decide)) (r_n (x := (0 : Int32)) (l := 0) (h := 0) (by decide) (by decide)) (by decide)) ?_
                refine tp_nl ?_
                refine tp_iff (d_ne2 (r_n (x := (1 : Int32)) (l := 1) (h := 1) (by decide) (by decide)) (r_n (x := (0 : Int32)) (l := 0) (h := 0) (by decide) (by decide)) (by decide)) ?_
                refine tp_b (t_f_X0_leftAtMost (r_w (l' := -1) (h' := 899) r4 (by decide) (by decide)) (r_w (l' := 0) (h' := 288) r7 (by decide) (by decide)) h_p_p_1 (r_w (l' := 0) (h' := 9) r18 (by decide) (by decide)) h_p_p_2_2_2_2_1 h_p_p_2_2_2_2_2_1 h_p_p_2_2_2_2_2_2_1 h_p_p_2_2_2_2_2_2_2_1) (fun o40 h23 => ?_)
                refine tp_if (fun c24 => ?_) (fun c24 => ?_)
                · skip
                  have r25 : R32 (-2) (-2) v11_l2 := r_eq1 (l := -2) (h := -2) (by decide) (by decide) h_v11_l2 (r_n (x := (-2 : Int32)) (l := -2) (h := -2) (by decide) (by decide)) c24
                  exact t_f_X0_tellingQuestion_J57 ih hm (r_w (l' := 0) (h' := 899) r4 (by decide) (by decide))
                · skip
                  have r26 : R32 (-1) (899) v11_l2 := r_neL (by decide) h_v11_l2 (r_n (x := (-2 : Int32)) (l := -2) (h := -2) (by decide) (by decide)) c24
                  refine tp_if (fun c27 => ?_) (fun c27 => ?_)
                  · skip
                    exact t_f_X0_tellingQuestion_J63 ih hm (r_w (l' := 0) (h' := 899) r4 (by decide) (by decide)) (r_w (l' := -2) (h' := 899) r26 (by decide) (by decide))
                  · skip
                    have r28 : R32 (-2147483647) (2147483647) v11_l3 := r_nle1 (by decide) (r_top _) (r_top _) c27
                    have r29 : R32 (-2147483648) (2147483646) o40 := r_nle2 (by decide) (r_top _) (r_top _) c27
                    exact t_f_X0_tellingQuestion_J57 ih hm (r_w (l' := 0) (h' := 899) r4 (by decide) (by decide))
theorem t_f_X0_tellingQuestion {d_d : TX0_d} {p_p : TX6_p} (h_d_d_2 : R32 (0) (288) d_d.2) (h_p_p_1 : R32 (1) (8) p_p.1) (h_p_p_2_1 : R32 (0) (9) p_p.2.1) (h_p_p_2_2_2_2_1 : R32 (0) (4) p_p.2.2.2.2.1) (h_p_p_2_2_2_2_2_1 : R32 (0) (5) p_p.2.2.2.2.2.1) (h_p_p_2_2_2_2_2_2_1 : R32 (0) (6) p_p.2.2.2.2.2.2.1) (h_p_p_2_2_2_2_2_2_2_1 : R32 (0) (6) p_p.2.2.2.2.2.2.2.1) : TotP (f_X0_tellingQuestion d_d p_p) (fun (r : Int32) => R32 (-2) (899) r) := by
  unfold f_X0_tellingQuestion
  exact t_f_X0_tellingQuestion_L11 h_d_d_2 h_p_p_1 h_p_p_2_1 h_p_p_2_2_2_2_1 h_p_p_2_2_2_2_2_1 h_p_p_2_2_2_2_2_2_1 h_p_p_2_2_2_2_2_2_2_1 FU _ _ _ (r_w (l' := 0) (h' := 900) (r_n (x := (0 : Int32)) (l := 0) (h := 0) (by decide) (by decide)) (by decide) (by decide)) (r_w (l' := -2) (h' := 899) (r_n (x := (-2 : Int32)) (l := -2) (h := -2) (by decide) (by decide)) (by decide) (by decide)) (fu_up (r_w (l' := 0) (h' := 900) (r_n (x := (0 : Int32)) (l := 0) (h := 0) (by decide) (by decide)) (by decide) (by decide)) (by decide))
theorem t_f_X10_ask {x_x : TX10_x} {p_p : TX6_p} {d_d : TX0_d} (h_p_p_1 : R32 (0) (8) p_p.1) (h_p_p_2_1 : R32 (0) (9) p_p.2.1) (h_p_p_2_2_2_2_1 : R32 (0) (4) p_p.2.2.2.2.1) (h_p_p_2_2_2_2_2_1 : R32 (0) (5) p_p.2.2.2.2.2.1) (h_p_p_2_2_2_2_2_2_1 : R32 (0) (6) p_p.2.2.2.2.2.2.1) (h_p_p_2_2_2_2_2_2_2_1 : R32 (0) (6) p_p.2.2.2.2.2.2.2.1) (h_d_d_2 : R32 (0) (288) d_d.2) : TotP (f_X10_ask x_x p_p d_d) (fun (r : Int32 × TX10_x × TX0_d) => R32 (-2) (899) r.1 ∧ R32 (0) (6) r.2.1.1 ∧ R32 (0) (288) r.2.2.2) := by
  unfold f_X10_ask
  refine tp_e (f_X10_darkTrouble.eq_1 _) ?_
  refine tp_nn ?_
  refine tp_e (f_X10_pierTrouble.eq_1 _) ?_
  refine tp_nif (fun c1 => ?_) (fun c1 => ?_)
  · skip
    have r2 : R32 (0) (0) p_p.1 := r_eq1 (l := 0) (h := 0) (by decide) (by decide) h_p_p_1 (r_n (x := (0 : Int32)) (l := 0) (h := 0) (by decide) (by decide)) c1
    refine tp_nl ?_
    refine tp_niff (d_ne2 (r_n (x := (1 : Int32)) (l := 1) (h := 1) (by decide) (by decide)) (r_n (x := (0 : Int32)) (l := 0) (h := 0) (by decide) (by decide)) (by decide)) ?_
    refine tp_e (f_X10_darkTrouble_J25.eq_1 _) ?_
    refine tp_nl ?_
    refine tp_e (f_X10_refused.eq_1 _ _) ?_
    refine tp_niff (d_ne2 (r_n (x := (1 : Int32)) (l := 1) (h := 1) (by decide) (by decide)) (r_n (x := (0 : Int32)) (l := 0) (h := 0) (by decide) (by decide)) (by decide)) ?_
    refine tp_nl ?_
    refine tp_iff (d_ne2 (r_n (x := (1 : Int32)) (l := 1) (h := 1) (by decide) (by decide)) (r_n (x := (0 : Int32)) (l := 0) (h := 0) (by decide) (by decide)) (by decide)) ?_
    exact tp_s ⟨(r_w (l' := -2) (h' := 899) (r_n (x := (-1 : Int32)) (l := -1) (h := -1) (by decide) (by decide)) (by decide) (by decide)), (r_w (l' := 0) (h' := 6) (r_n (x := (1 : Int32)) (l := 1) (h := 1) (by decide) (by decide)) (by decide) (by decide)), h_d_d_2⟩
  · skip
    have r3 : R32 (1) (8) p_p.1 := r_neL (by decide) h_p_p_1 (r_n (x := (0 : Int32)) (l := 0) (h := 0) (by decide) (by decide)) c1
    refine tp_nl ?_
    refine tp_nift (d_eq (r_n (x := (0 : Int32)) (l := 0) (h := 0) (by decide) (by decide)) (r_n (x := (0 : Int32)) (l := 0) (h := 0) (by decide) (by decide))) ?_
    refine tp_nif (fun c4 => ?_) (fun c4 => ?_)
    · skip
      have r5 : R32 (-1) (-1) p_p.2.2.2.2.2.2.2.2.1 := r_eq1 (l := -1) (h := -1) (by decide) (by decide) (r_top _) (r_n (x := (-1 : Int32)) (l := -1) (h := -1) (by decide) (by decide)) c4
      refine tp_nl ?_
      refine tp_e (f_X10_refused.eq_1 _ _) ?_
      refine tp_niff (d_ne2 (r_n (x := (6 : Int32)) (l := 6) (h := 6) (by decide) (by decide)) (r_n (x := (0 : Int32)) (l := 0) (h := 0) (by decide) (by decide)) (by decide)) ?_
      refine tp_nl ?_
      refine tp_iff (d_ne2 (r_n (x := (1 : Int32)) (l := 1) (h := 1) (by decide) (by decide)) (r_n (x := (0 : Int32)) (l := 0) (h := 0) (by decide) (by decide)) (by decide)) ?_
      exact tp_s ⟨(r_w (l' := -2) (h' := 899) (r_n (x := (-1 : Int32)) (l := -1) (h := -1) (by decide) (by decide)) (by decide) (by decide)), (r_w (l' := 0) (h' := 6) (r_n (x := (6 : Int32)) (l := 6) (h := 6) (by decide) (by decide)) (by decide) (by decide)), h_d_d_2⟩
    · skip
      refine tp_e (f_X10_darkTrouble_J25.eq_1 _) ?_
      refine tp_nl ?_
      refine tp_e (f_X10_refused.eq_1 _ _) ?_
      refine tp_nift (d_eq (r_n (x := (0 : Int32)) (l := 0) (h := 0) (by decide) (by decide)) (r_n (x := (0 : Int32)) (l := 0) (h := 0) (by decide) (by decide))) ?_
      refine tp_nl ?_
      refine tp_ift (d_eq (r_n (x := (0 : Int32)) (l := 0) (h := 0) (by decide) (by decide)) (r_n (x := (0 : Int32)) (l := 0) (h := 0) (by decide) (by decide))) ?_
      refine tp_b (t_f_X0_find h_d_d_2 r3 h_p_p_2_1 h_p_p_2_2_2_2_1 h_p_p_2_2_2_2_2_1 h_p_p_2_2_2_2_2_2_1 h_p_p_2_2_2_2_2_2_2_1) (fun o21 h6 => ?_)
      refine tp_b (t_f_X0_tellingQuestion h6 r3 h_p_p_2_1 h_p_p_2_2_2_2_1 h_p_p_2_2_2_2_2_1 h_p_p_2_2_2_2_2_2_1 h_p_p_2_2_2_2_2_2_2_1) (fun o32 h7 => ?_)
      exact tp_s ⟨h7, (r_w (l' := 0) (h' := 6) (r_n (x := (0 : Int32)) (l := 0) (h := 0) (by decide) (by decide)) (by decide) (by decide)), h6⟩
theorem t_f_X10_askLeaves {x_x : TX10_x} {p_p : TX6_p} {d_d : TX0_d} (h_p_p_1 : R32 (0) (8) p_p.1) (h_p_p_2_1 : R32 (0) (9) p_p.2.1) (h_p_p_2_2_2_2_1 : R32 (0) (4) p_p.2.2.2.2.1) (h_p_p_2_2_2_2_2_1 : R32 (0) (5) p_p.2.2.2.2.2.1) (h_p_p_2_2_2_2_2_2_1 : R32 (0) (6) p_p.2.2.2.2.2.2.1) (h_p_p_2_2_2_2_2_2_2_1 : R32 (0) (6) p_p.2.2.2.2.2.2.2.1) (h_d_d_2 : R32 (0) (288) d_d.2) : TotP (f_X10_askLeaves x_x p_p d_d) (fun (r : Int32 × TX10_x × TX0_d) => R32 (0) (6) r.2.1.1 ∧ R32 (0) (288) r.2.2.2) := by
  unfold f_X10_askLeaves
  refine tp_e (f_X10_darkTrouble.eq_1 _) ?_
  refine tp_nn ?_
  refine tp_e (f_X10_pierTrouble.eq_1 _) ?_
  refine tp_nif (fun c1 => ?_) (fun c1 => ?_)
  · skip
    have r2 : R32 (0) (0) p_p.1 := r_eq1 (l := 0) (h := 0) (by decide) (by decide) h_p_p_1 (r_n (x := (0 : Int32)) (l := 0) (h := 0) (by decide) (by decide)) c1
    refine tp_nl ?_
    refine tp_niff (d_ne2 (r_n (x := (1 : Int32)) (l := 1) (h := 1) (by decide) (by decide)) (r_n (x := (0 : Int32)) (l := 0) (h := 0) (by decide) (by decide)) (by decide)) ?_
    refine tp_e (f_X10_darkTrouble_J25.eq_1 _) ?_
    refine tp_nl ?_
    refine tp_e (f_X10_refused.eq_1 _ _) ?_
    refine tp_niff (d_ne2 (r_n (x := (1 : Int32)) (l := 1) (h := 1) (by decide) (by decide)) (r_n (x := (0 : Int32)) (l := 0) (h := 0) (by decide) (by decide)) (by decide)) ?_
    refine tp_nl ?_
    refine tp_iff (d_ne2 (r_n (x := (1 : Int32)) (l := 1) (h := 1) (by decide) (by decide)) (r_n (x := (0 : Int32)) (l := 0) (h := 0) (by decide) (by decide)) (by decide)) ?_
    exact tp_s ⟨(r_w (l' := 0) (h' := 6) (r_n (x := (1 : Int32)) (l := 1) (h := 1) (by decide) (by decide)) (by decide) (by decide)), h_d_d_2⟩
  · skip
    have r3 : R32 (1) (8) p_p.1 := r_neL (by decide) h_p_p_1 (r_n (x := (0 : Int32)) (l := 0) (h := 0) (by decide) (by decide)) c1
    refine tp_nl ?_
    refine tp_nift (d_eq (r_n (x := (0 : Int32)) (l := 0) (h := 0) (by decide) (by decide)) (r_n (x := (0 : Int32)) (l := 0) (h := 0) (by decide) (by decide))) ?_
    refine tp_nif (fun c4 => ?_) (fun c4 => ?_)
    · skip
      have r5 : R32 (-1) (-1) p_p.2.2.2.2.2.2.2.2.1 := r_eq1 (l := -1) (h := -1) (by decide) (by decide) (r_top _) (r_n (x := (-1 : Int32)) (l := -1) (h := -1) (by decide) (by decide)) c4
      refine tp_nl ?_
      refine tp_e (f_X10_refused.eq_1 _ _) ?_
      refine tp_niff (d_ne2 (r_n (x := (6 : Int32)) (l := 6) (h := 6) (by decide) (by decide)) (r_n (x := (0 : Int32)) (l := 0) (h := 0) (by decide) (by decide)) (by decide)) ?_
      refine tp_nl ?_
      refine tp_iff (d_ne2 (r_n (x := (1 : Int32)) (l := 1) (h := 1) (by decide) (by decide)) (r_n (x := (0 : Int32)) (l := 0) (h := 0) (by decide) (by decide)) (by decide)) ?_
      exact tp_s ⟨(r_w (l' := 0) (h' := 6) (r_n (x := (6 : Int32)) (l := 6) (h := 6) (by decide) (by decide)) (by decide) (by decide)), h_d_d_2⟩
    · skip
      refine tp_e (f_X10_darkTrouble_J25.eq_1 _) ?_
      refine tp_nl ?_
      refine tp_e (f_X10_refused.eq_1 _ _) ?_
      refine tp_nift (d_eq (r_n (x := (0 : Int32)) (l := 0) (h := 0) (by decide) (by decide)) (r_n (x := (0 : Int32)) (l := 0) (h := 0) (by decide) (by decide))) ?_
      refine tp_nl ?_
      refine tp_ift (d_eq (r_n (x := (0 : Int32)) (l := 0) (h := 0) (by decide) (by decide)) (r_n (x := (0 : Int32)) (l := 0) (h := 0) (by decide) (by decide))) ?_
      refine tp_b (t_f_X0_find h_d_d_2 r3 h_p_p_2_1 h_p_p_2_2_2_2_1 h_p_p_2_2_2_2_2_1 h_p_p_2_2_2_2_2_2_1 h_p_p_2_2_2_2_2_2_2_1) (fun o21 h6 => ?_)
      refine tp_b (t_f_X0_tellingQuestion h6 r3 h_p_p_2_1 h_p_p_2_2_2_2_1 h_p_p_2_2_2_2_2_1 h_p_p_2_2_2_2_2_2_1 h_p_p_2_2_2_2_2_2_2_1) (fun o32 h7 => ?_)
      refine tp_if (fun c8 => ?_) (fun c8 => ?_)
      · skip
        have r9 : R32 (-2) (-2) o32 := r_eq1 (l := -2) (h := -2) (by decide) (by decide) h7 (r_n (x := (-2 : Int32)) (l := -2) (h := -2) (by decide) (by decide)) c8
        exact tp_s ⟨(r_w (l' := 0) (h' := 6) (r_n (x := (0 : Int32)) (l := 0) (h := 0) (by decide) (by decide)) (by decide) (by decide)), h6⟩
      · skip
        have r10 : R32 (-1) (899) o32 := r_neL (by decide) h7 (r_n (x := (-2 : Int32)) (l := -2) (h := -2) (by decide) (by decide)) c8
        refine tp_b (t_f_X0_leftAtMost r10 h6 r3 h_p_p_2_1 h_p_p_2_2_2_2_1 h_p_p_2_2_2_2_2_1 h_p_p_2_2_2_2_2_2_1 h_p_p_2_2_2_2_2_2_2_1) (fun o56 h11 => ?_)
        exact tp_s ⟨(r_w (l' := 0) (h' := 6) (r_n (x := (0 : Int32)) (l := 0) (h := 0) (by decide) (by decide)) (by decide) (by decide)), h6⟩
theorem t_f_X10_judge_J74 {p_p : TX6_p} {k29_ : Int32 → Option (Int32 × TX10_x)} {o19 : (Int32 × TX10_x)} {v29_l3 : Int32} {v74_t0 : Int32} (h_p_p_1 : R32 (1) (8) p_p.1) (h_p_p_2_1 : R32 (0) (9) p_p.2.1) (h_p_p_2_2_2_2_1 : R32 (0) (4) p_p.2.2.2.2.1) (h_p_p_2_2_2_2_2_1 : R32 (0) (5) p_p.2.2.2.2.2.1) (h_p_p_2_2_2_2_2_2_1 : R32 (0) (6) p_p.2.2.2.2.2.2.1) (h_p_p_2_2_2_2_2_2_2_1 : R32 (1) (6) p_p.2.2.2.2.2.2.2.1) {N29 : Nat} (hk29 : ∀ (v29_l3 : Int32), R32 (0) (6) v29_l3 → (6 : Int) - v29_l3.toInt < (N29 : Nat) → TotP (k29_ v29_l3) (fun (r : Int32 × TX10_x) => R32 (-2) (5) r.1 ∧ R32 (0) (6) r.2.1)) (hm29 : (6 : Int) - v29_l3.toInt < ((N29 + 1 : Nat) : Int)) (h_o19_1 : R32 (0) (0) o19.1) (h_o19_2_1 : R32 (0) (0) o19.2.1) (h_v29_l3 : R32 (0) (5) v29_l3) (h_v74_t0 : R32 (0) (1) v74_t0) : TotP (f_X10_judge_J74 p_p k29_ o19 v29_l3 v74_t0) (fun (r : Int32 × TX10_x) => R32 (-2) (5) r.1 ∧ R32 (0) (6) r.2.1) := by
  unfold f_X10_judge_J74
  refine tp_g h_v29_l3 (by decide) (by decide) ?_
  refine tp_n0 (fun z86 => ?_)
  refine tp_if (fun c1 => ?_) (fun c1 => ?_)
  · skip
    have r2 : R32 (0) (1) z86 := r_eq2 (l := 0) (h := 1) (by decide) (by decide) h_v74_t0 (r_top _) c1
    exact hk29 _ (r_w (l' := 0) (h' := 6) (r_add (l := 1) (h := 6) h_v29_l3 (r_n (x := (1 : Int32)) (l := 1) (h := 1) (by decide) (by decide)) (by decide) (by decide) (by decide) (by decide)) (by decide) (by decide)) (ms_up (y := (1 : Int32)) h_v29_l3 (by decide) (by decide) (by decide) hm29)
  · skip
    exact tp_s ⟨(r_w (l' := -2) (h' := 5) h_v29_l3 (by decide) (by decide)), (r_w (l' := 0) (h' := 6) h_o19_2_1 (by decide) (by decide))⟩
theorem t_f_X10_judge_L29 {k1 : Int32} {p_p : TX6_p} {o19 : (Int32 × TX10_x)} (h_k1 : R32 (0) (5) k1) (h_p_p_1 : R32 (1) (8) p_p.1) (h_p_p_2_1 : R32 (0) (9) p_p.2.1) (h_p_p_2_2_2_2_1 : R32 (0) (4) p_p.2.2.2.2.1) (h_p_p_2_2_2_2_2_1 : R32 (0) (5) p_p.2.2.2.2.2.1) (h_p_p_2_2_2_2_2_2_1 : R32 (0) (6) p_p.2.2.2.2.2.2.1) (h_p_p_2_2_2_2_2_2_2_1 : R32 (0) (6) p_p.2.2.2.2.2.2.2.1) (h_o19_1 : R32 (0) (0) o19.1) (h_o19_2_1 : R32 (0) (0) o19.2.1) : ∀ (n : Nat) (v29_l3 : Int32), R32 (0) (6) v29_l3 → (6 : Int) - v29_l3.toInt < (n : Int) → TotP (f_X10_judge_L29 k1 p_p o19 n v29_l3) (fun (r : Int32 × TX10_x) => R32 (-2) (5) r.1 ∧ R32 (0) (6) r.2.1) := by
  intro n
  induction n with
  | zero =>
    intro v29_l3 h_v29_l3 hm
    exact (ms_0u h_v29_l3 hm).elim
  | succ n ih =>
    intro v29_l3 h_v29_l3 hm
    rw [f_X10_judge_L29]
    refine tp_if (fun c1 => ?_) (fun c1 => ?_)
    · skip
      exact tp_s ⟨(r_w (l' := -2) (h' := 5) (r_n (x := (-2 : Int32)) (l := -2) (h := -2) (by decide) (by decide)) (by decide) (by decide)), (r_w (l' := 0) (h' := 6) h_o19_2_1 (by decide) (by decide))⟩
    · skip
      have r2 : R32 (1) (6) p_p.2.2.2.2.2.2.2.1 := r_nle1 (by decide) h_p_p_2_2_2_2_2_2_2_1 h_v29_l3 c1
      have r3 : R32 (0) (5) v29_l3 := r_nle2 (by decide) h_p_p_2_2_2_2_2_2_2_1 h_v29_l3 c1
      refine tp_g r3 (by decide) (by decide) ?_
      refine tp_n0 (fun z60 => ?_)
      refine tp_b (t_f_X6_wishBy h_k1 (r_w (l' := 0) (h' := 8) h_p_p_1 (by decide) (by decide)) h_p_p_2_1 h_p_p_2_2_2_2_1 h_p_p_2_2_2_2_2_1 h_p_p_2_2_2_2_2_2_1 (r_w (l' := 0) (h' := 6) r2 (by decide) (by decide))) (fun o61 h4 => ?_)
      refine tp_if (fun c5 => ?_) (fun c5 => ?_)
      · skip
        have r6 : R32 (-2147483648) (49) o61 := r_lt1 (by decide) (r_top _) (r_n (x := (50 : Int32)) (l := 50) (h := 50) (by decide) (by decide)) c5
        exact t_f_X10_judge_J74 h_p_p_1 h_p_p_2_1 h_p_p_2_2_2_2_1 h_p_p_2_2_2_2_2_1 h_p_p_2_2_2_2_2_2_1 r2 ih hm h_o19_1 h_o19_2_1 r3 (r_w (l' := 0) (h' := 1) (r_n (x := (0 : Int32)) (l := 0) (h := 0) (by decide) (by decide)) (by decide) (by decide))
      · skip
        have r7 : R32 (50) (2147483647) o61 := r_nlt1 (r_top _) (r_n (x := (50 : Int32)) (l := 50) (h := 50) (by decide) (by decide)) c5
        exact t_f_X10_judge_J74 h_p_p_1 h_p_p_2_1 h_p_p_2_2_2_2_1 h_p_p_2_2_2_2_2_1 h_p_p_2_2_2_2_2_2_1 r2 ih hm h_o19_1 h_o19_2_1 r3 (r_w (l' := 0) (h' := 1) (r_n (x := (1 : Int32)) (l := 1) (h := 1) (by decide) (by decide)) (by decide) (by decide))
theorem t_f_X10_judge {k1 : Int32} {x_x : TX10_x} {p_p : TX6_p} (h_p_p_1 : R32 (0) (8) p_p.1) (h_p_p_2_1 : R32 (0) (9) p_p.2.1) (h_p_p_2_2_2_2_1 : R32 (0) (4) p_p.2.2.2.2.1) (h_p_p_2_2_2_2_2_1 : R32 (0) (5) p_p.2.2.2.2.2.1) (h_p_p_2_2_2_2_2_2_1 : R32 (0) (6) p_p.2.2.2.2.2.2.1) (h_p_p_2_2_2_2_2_2_2_1 : R32 (0) (6) p_p.2.2.2.2.2.2.2.1) : TotP (f_X10_judge k1 x_x p_p) (fun (r : Int32 × TX10_x) => R32 (-2) (5) r.1 ∧ R32 (0) (6) r.2.1) := by
  unfold f_X10_judge
  refine tp_e (f_X10_answerTrouble.eq_1 _ _) ?_
  refine tp_nn ?_
  refine tp_e (f_X6_hasAnswer.eq_1 _ _) ?_
  refine tp_nn ?_
  refine tp_e (f_X10_within.eq_1 _ _ _) ?_
  refine tp_nif (fun c1 => ?_) (fun c1 => ?_)
  · skip
    have r2 : R32 (-2147483648) (-1) k1 := r_lt1 (by decide) (r_top _) (r_n (x := (0 : Int32)) (l := 0) (h := 0) (by decide) (by decide)) c1
    refine tp_nl ?_
    refine tp_nl ?_
    refine tp_nift (d_eq (r_n (x := (0 : Int32)) (l := 0) (h := 0) (by decide) (by decide)) (r_n (x := (0 : Int32)) (l := 0) (h := 0) (by decide) (by decide))) ?_
    refine tp_nl ?_
    refine tp_iff (d_ne2 (r_n (x := (1 : Int32)) (l := 1) (h := 1) (by decide) (by decide)) (r_n (x := (0 : Int32)) (l := 0) (h := 0) (by decide) (by decide)) (by decide)) ?_
    refine tp_u (f_X10_judge_J19.eq_1 _ _ _ _) ?_
    refine tp_e (f_X10_refused.eq_1 _ _) ?_
    refine tp_niff (d_ne2 (r_n (x := (1 : Int32)) (l := 1) (h := 1) (by decide) (by decide)) (r_n (x := (0 : Int32)) (l := 0) (h := 0) (by decide) (by decide)) (by decide)) ?_
    refine tp_nl ?_
    refine tp_iff (d_ne2 (r_n (x := (1 : Int32)) (l := 1) (h := 1) (by decide) (by decide)) (r_n (x := (0 : Int32)) (l := 0) (h := 0) (by decide) (by decide)) (by decide)) ?_
    exact tp_s ⟨(r_w (l' := -2) (h' := 5) (r_n (x := (-1 : Int32)) (l := -1) (h := -1) (by decide) (by decide)) (by decide) (by decide)), (r_w (l' := 0) (h' := 6) (r_n (x := (1 : Int32)) (l := 1) (h := 1) (by decide) (by decide)) (by decide) (by decide))⟩
  · skip
    have r3 : R32 (0) (2147483647) k1 := r_nlt1 (r_top _) (r_n (x := (0 : Int32)) (l := 0) (h := 0) (by decide) (by decide)) c1
    refine tp_nif (fun c4 => ?_) (fun c4 => ?_)
    · skip
      refine tp_nl ?_
      refine tp_nl ?_
      refine tp_nift (d_eq (r_n (x := (0 : Int32)) (l := 0) (h := 0) (by decide) (by decide)) (r_n (x := (0 : Int32)) (l := 0) (h := 0) (by decide) (by decide))) ?_
      refine tp_nl ?_
      refine tp_iff (d_ne2 (r_n (x := (1 : Int32)) (l := 1) (h := 1) (by decide) (by decide)) (r_n (x := (0 : Int32)) (l := 0) (h := 0) (by decide) (by decide)) (by decide)) ?_
      refine tp_u (f_X10_judge_J19.eq_1 _ _ _ _) ?_
      refine tp_e (f_X10_refused.eq_1 _ _) ?_
      refine tp_niff (d_ne2 (r_n (x := (1 : Int32)) (l := 1) (h := 1) (by decide) (by decide)) (r_n (x := (0 : Int32)) (l := 0) (h := 0) (by decide) (by decide)) (by decide)) ?_
      refine tp_nl ?_
      refine tp_iff (d_ne2 (r_n (x := (1 : Int32)) (l := 1) (h := 1) (by decide) (by decide)) (r_n (x := (0 : Int32)) (l := 0) (h := 0) (by decide) (by decide)) (by decide)) ?_
      exact tp_s ⟨(r_w (l' := -2) (h' := 5) (r_n (x := (-1 : Int32)) (l := -1) (h := -1) (by decide) (by decide)) (by decide) (by decide)), (r_w (l' := 0) (h' := 6) (r_n (x := (1 : Int32)) (l := 1) (h := 1) (by decide) (by decide)) (by decide) (by decide))⟩
    · skip
      have r5 : R32 (0) (5) (p_p.2.2.2.2.2.2.1 - (1 : Int32)) := r_nlt1 (r_sub (l := -1) (h := 5) h_p_p_2_2_2_2_2_2_1 (r_n (x := (1 : Int32)) (l := 1) (h := 1) (by decide) (by decide)) (by decide) (by decide) (by decide) (by decide)) r3 c4
      have r6 : R32 (0) (5) k1 := r_nlt2 (r_sub (l := -1) (h := 5) h_p_p_2_2_2_2_2_2_1 (r_n (x := (1 : Int32)) (l := 1) (h := 1) (by decide) (by decide)) (by decide) (by decide) (by decide) (by decide)) r3 c4
      refine tp_nl ?_
      refine tp_nl ?_
      refine tp_niff (d_ne2 (r_n (x := (1 : Int32)) (l := 1) (h := 1) (by decide) (by decide)) (r_n (x := (0 : Int32)) (l := 0) (h := 0) (by decide) (by decide)) (by decide)) ?_
      refine tp_nl ?_
      refine tp_ift (d_eq (r_n (x := (0 : Int32)) (l := 0) (h := 0) (by decide) (by decide)) (r_n (x := (0 : Int32)) (l := 0) (h := 0) (by decide) (by decide))) ?_
      refine tp_e (f_X10_darkTrouble.eq_1 _) ?_
      refine tp_nn ?_
      refine tp_e (f_X10_pierTrouble.eq_1 _) ?_
      refine tp_nif (fun c7 => ?_) (fun c7 => ?_)
      · skip
        have r8 : R32 (0) (0) p_p.1 := r_eq1 (l := 0) (h := 0) (by decide) (by decide) h_p_p_1 (r_n (x := (0 : Int32)) (l := 0) (h := 0) (by decide) (by decide)) c7
        refine tp_nl ?_
        refine tp_niff (d_ne2 (r_n (x := (1 : Int32)) (l := 1) (h := 1) (by decide) (by decide)) (r_n (x := (0 : Int32)) (l := 0) (h := 0) (by decide) (by decide)) (by decide)) ?_
        refine tp_e (f_X10_darkTrouble_J25.eq_1 _) ?_
        refine tp_nl ?_
        refine tp_u (f_X10_judge_J19.eq_1 _ _ _ _) ?_
        refine tp_e (f_X10_refused.eq_1 _ _) ?_
        refine tp_niff (d_ne2 (r_n (x := (1 : Int32)) (l := 1) (h := 1) (by decide) (by decide)) (r_n (x := (0 : Int32)) (l := 0) (h := 0) (by decide) (by decide)) (by decide)) ?_
        refine tp_nl ?_
        refine tp_iff (d_ne2 (r_n (x := (1 : Int32)) (l := 1) (h := 1) (by decide) (by decide)) (r_n (x := (0 : Int32)) (l := 0) (h := 0) (by decide) (by decide)) (by decide)) ?_
        exact tp_s ⟨(r_w (l' := -2) (h' := 5) (r_n (x := (-1 : Int32)) (l := -1) (h := -1) (by decide) (by decide)) (by decide) (by decide)), (r_w (l' := 0) (h' := 6) (r_n (x := (1 : Int32)) (l := 1) (h := 1) (by decide) (by decide)) (by decide) (by decide))⟩
      · skip
        have r9 : R32 (1) (8) p_p.1 := r_neL (by decide) h_p_p_1 (r_n (x := (0 : Int32)) (l := 0) (h := 0) (by decide) (by decide)) c7
        refine tp_nl ?_
        refine tp_nift (d_eq (r_n (x := (0 : Int32)) (l := 0) (h := 0) (by decide) (by decide)) (r_n (x := (0 : Int32)) (l := 0) (h := 0) (by decide) (by decide))) ?_
        refine tp_nif (fun c10 => ?_) (fun c10 => ?_)
        · skip
          have r11 : R32 (-1) (-1) p_p.2.2.2.2.2.2.2.2.1 := r_eq1 (l := -1) (h := -1) (by decide) (by decide) (r_top _) (r_n (x := (-1 : Int32)) (l := -1) (h := -1) (by decide) (by decide)) c10
          refine tp_nl ?_
          refine tp_u (f_X10_judge_J19.eq_1 _ _ _ _) ?_
          refine tp_e (f_X10_refused.eq_1 _ _) ?_
          refine tp_niff (d_ne2 (r_n (x := (6 : Int32)) (l := 6) (h := 6) (by decide) (by decide)) (r_n (x := (0 : Int32)) (l := 0) (h := 0) (by decide) (by decide)) (by decide)) ?_
          refine tp_nl ?_
          refine tp_iff (d_ne2 (r_n (x := (1 : Int32)) (l := 1) (h := 1) (by decide) (by decide)) (r_n (x := (0 : Int32)) (l := 0) (h := 0) (by decide) (by decide)) (by decide)) ?_
          exact tp_s ⟨(r_w (l' := -2) (h' := 5) (r_n (x := (-1 : Int32)) (l := -1) (h := -1) (by decide) (by decide)) (by decide) (by decide)), (r_w (l' := 0) (h' := 6) (r_n (x := (6 : Int32)) (l := 6) (h := 6) (by decide) (by decide)) (by decide) (by decide))⟩
        · skip
          refine tp_e (f_X10_darkTrouble_J25.eq_1 _) ?_
          refine tp_nl ?_
          refine tp_u (f_X10_judge_J19.eq_1 _ _ _ _) ?_
          refine tp_e (f_X10_refused.eq_1 _ _) ?_
          refine tp_nift (d_eq (r_n (x := (0 : Int32)) (l := 0) (h := 0) (by decide) (by decide)) (r_n (x := (0 : Int32)) (l := 0) (h := 0) (by decide) (by decide))) ?_
          refine tp_nl ?_
          refine tp_ift (d_eq (r_n (x := (0 : Int32)) (l := 0) (h := 0) (by decide) (by decide)) (r_n (x := (0 : Int32)) (l := 0) (h := 0) (by decide) (by decide))) ?_
          exact t_f_X10_judge_L29 r6 r9 h_p_p_2_1 h_p_p_2_2_2_2_1 h_p_p_2_2_2_2_2_1 h_p_p_2_2_2_2_2_2_1 h_p_p_2_2_2_2_2_2_2_1 (r_n (x := (0 : Int32)) (l := 0) (h := 0) (by decide) (by decide)) (r_n (x := (0 : Int32)) (l := 0) (h := 0) (by decide) (by decide)) FU _ (r_w (l' := 0) (h' := 6) (r_n (x := (0 : Int32)) (l := 0) (h := 0) (by decide) (by decide)) (by decide) (by decide)) (fu_up (r_w (l' := 0) (h' := 6) (r_n (x := (0 : Int32)) (l := 0) (h := 0) (by decide) (by decide)) (by decide) (by decide)) (by decide))
theorem t_f_X10_worth {k1 : Int32} {k2 : Int32} {k3 : Int32} {x_x : TX10_x} {p_p : TX6_p} (h_p_p_1 : R32 (0) (8) p_p.1) (h_p_p_2_1 : R32 (0) (9) p_p.2.1) (h_p_p_2_2_2_2_1 : R32 (0) (4) p_p.2.2.2.2.1) (h_p_p_2_2_2_2_2_1 : R32 (0) (5) p_p.2.2.2.2.2.1) (h_p_p_2_2_2_2_2_2_1 : R32 (0) (6) p_p.2.2.2.2.2.2.1) (h_p_p_2_2_2_2_2_2_2_1 : R32 (0) (6) p_p.2.2.2.2.2.2.2.1) : TotP (f_X10_worth k1 k2 k3 x_x p_p) (fun (r : Int32 × TX10_x) => R32 (0) (2) r.2.1) := by
  unfold f_X10_worth
  refine tp_e (f_X10_answerTrouble.eq_1 _ _) ?_
  refine tp_nn ?_
  refine tp_e (f_X6_hasAnswer.eq_1 _ _) ?_
  refine tp_nn ?_
  refine tp_e (f_X10_within.eq_1 _ _ _) ?_
  refine tp_nif (fun c1 => ?_) (fun c1 => ?_)
  · skip
    have r2 : R32 (-2147483648) (-1) k1 := r_lt1 (by decide) (r_top _) (r_n (x := (0 : Int32)) (l := 0) (h := 0) (by decide) (by decide)) c1
    refine tp_nl ?_
    refine tp_nl ?_
    refine tp_nift (d_eq (r_n (x := (0 : Int32)) (l := 0) (h := 0) (by decide) (by decide)) (r_n (x := (0 : Int32)) (l := 0) (h := 0) (by decide) (by decide))) ?_
    refine tp_nl ?_
    refine tp_e (f_X10_within.eq_1 _ _ _) ?_
    refine tp_nif (fun c3 => ?_) (fun c3 => ?_)
    · skip
      have r4 : R32 (-2147483648) (-1) k2 := r_lt1 (by decide) (r_top _) (r_n (x := (0 : Int32)) (l := 0) (h := 0) (by decide) (by decide)) c3
      refine tp_nl ?_
      refine tp_ift (d_eq (r_n (x := (0 : Int32)) (l := 0) (h := 0) (by decide) (by decide)) (r_n (x := (0 : Int32)) (l := 0) (h := 0) (by decide) (by decide))) ?_
      refine tp_u (f_X10_worth_J33.eq_1 _ _ _ _ _ _) ?_
      refine tp_u (f_X10_worth_J34.eq_1 _ _ _ _ _ _ _) ?_
      refine tp_iff (d_ne2 (r_n (x := (1 : Int32)) (l := 1) (h := 1) (by decide) (by decide)) (r_n (x := (0 : Int32)) (l := 0) (h := 0) (by decide) (by decide)) (by decide)) ?_
      refine tp_u (f_X10_worth_J51.eq_1 _ _ _ _ _ _) ?_
      refine tp_u (f_X10_worth_J53.eq_1 _ _ _ _ _ _) ?_
      refine tp_e (f_X10_refused.eq_1 _ _) ?_
      refine tp_niff (d_ne2 (r_n (x := (1 : Int32)) (l := 1) (h := 1) (by decide) (by decide)) (r_n (x := (0 : Int32)) (l := 0) (h := 0) (by decide) (by decide)) (by decide)) ?_
      refine tp_nl ?_
      refine tp_iff (d_ne2 (r_n (x := (1 : Int32)) (l := 1) (h := 1) (by decide) (by decide)) (r_n (x := (0 : Int32)) (l := 0) (h := 0) (by decide) (by decide)) (by decide)) ?_
      exact tp_s (r_w (l' := 0) (h' := 2) (r_n (x := (1 : Int32)) (l := 1) (h := 1) (by decide) (by decide)) (by decide) (by decide))
    · skip
      have r5 : R32 (0) (2147483647) k2 := r_nlt1 (r_top _) (r_n (x := (0 : Int32)) (l := 0) (h := 0) (by decide) (by decide)) c3
      refine tp_nif (fun c6 => ?_) (fun c6 => ?_)
      · skip
        have r7 : R32 (1000) (2147483647) k2 := r_lt2 (by decide) (r_n (x := (999 : Int32)) (l := 999) (h := 999) (by decide) (by decide)) r5 c6
        refine tp_nl ?_
        refine tp_ift (d_eq (r_n (x := (0 : Int32)) (l := 0) (h := 0) (by decide) (by decide)) (r_n (x := (0 : Int32)) (l := 0) (h := 0) (by decide) (by decide))) ?_
        refine tp_u (f_X10_worth_J33.eq_1 _ _ _ _ _ _) ?_
        refine tp_u (f_X10_worth_J34.eq_1 _ _ _ _ _ _ _) ?_
        refine tp_iff (d_ne2 (r_n (x := (1 : Int32)) (l := 1) (h := 1) (by decide) (by decide)) (r_n (x := (0 : Int32)) (l := 0) (h := 0) (by decide) (by decide)) (by decide)) ?_
        refine tp_u (f_X10_worth_J51.eq_1 _ _ _ _ _ _) ?_
        refine tp_u (f_X10_worth_J53.eq_1 _ _ _ _ _ _) ?_
        refine tp_e (f_X10_refused.eq_1 _ _) ?_
        refine tp_niff (d_ne2 (r_n (x := (1 : Int32)) (l := 1) (h := 1) (by decide) (by decide)) (r_n (x := (0 : Int32)) (l := 0) (h := 0) (by decide) (by decide)) (by decide)) ?_
        refine tp_nl ?_
        refine tp_iff (d_ne2 (r_n (x := (1 : Int32)) (l := 1) (h := 1) (by decide) (by decide)) (r_n (x := (0 : Int32)) (l := 0) (h := 0) (by decide) (by decide)) (by decide)) ?_
        exact tp_s (r_w (l' := 0) (h' := 2) (r_n (x := (1 : Int32)) (l := 1) (h := 1) (by decide) (by decide)) (by decide) (by decide))
      · skip
        have r8 : R32 (0) (999) k2 := r_nlt2 (r_n (x := (999 : Int32)) (l := 999) (h := 999) (by decide) (by decide)) r5 c6
        refine tp_nl ?_
        refine tp_iff (d_ne2 (r_n (x := (1 : Int32)) (l := 1) (h := 1) (by decide) (by decide)) (r_n (x := (0 : Int32)) (l := 0) (h := 0) (by decide) (by decide)) (by decide)) ?_
        refine tp_e (f_X10_within.eq_1 _ _ _) ?_
        refine tp_nif (fun c9 => ?_) (fun c9 => ?_)
        · skip
          have r10 : R32 (-2147483648) (998) k3 := r_lt1 (by decide) (r_top _) r8 c9
          refine tp_nl ?_
          refine tp_ift (d_eq (r_n (x := (0 : Int32)) (l := 0) (h := 0) (by decide) (by decide)) (r_n (x := (0 : Int32)) (l := 0) (h := 0) (by decide) (by decide))) ?_
          refine tp_u (f_X10_worth_J33.eq_1 _ _ _ _ _ _) ?_
          refine tp_u (f_X10_worth_J34.eq_1 _ _ _ _ _ _ _) ?_
          refine tp_iff (d_ne2 (r_n (x := (1 : Int32)) (l := 1) (h := 1) (by decide) (by decide)) (r_n (x := (0 : Int32)) (l := 0) (h := 0) (by decide) (by decide)) (by decide)) ?_
          refine tp_u (f_X10_worth_J51.eq_1 _ _ _ _ _ _) ?_
          refine tp_u (f_X10_worth_J53.eq_1 _ _ _ _ _ _) ?_
          refine tp_e (f_X10_refused.eq_1 _ _) ?_
          refine tp_niff (d_ne2 (r_n (x := (1 : Int32)) (l := 1) (h := 1) (by decide) (by decide)) (r_n (x := (0 : Int32)) (l := 0) (h := 0) (by decide) (by decide)) (by decide)) ?_
          refine tp_nl ?_
          refine tp_iff (d_ne2 (r_n (x := (1 : Int32)) (l := 1) (h := 1) (by decide) (by decide)) (r_n (x := (0 : Int32)) (l := 0) (h := 0) (by decide) (by decide)) (by decide)) ?_
          exact tp_s (r_w (l' := 0) (h' := 2) (r_n (x := (1 : Int32)) (l := 1) (h := 1) (by decide) (by decide)) (by decide) (by decide))
        · skip
          have r11 : R32 (0) (2147483647) k3 := r_nlt1 (r_top _) r8 c9
          refine tp_nif (fun c12 => ?_) (fun c12 => ?_)
          · skip
            have r13 : R32 (1000) (2147483647) k3 := r_lt2 (by decide) (r_n (x := (999 : Int32)) (l := 999) (h := 999) (by decide) (by decide)) r11 c12
            refine tp_nl ?_
            refine tp_ift (d_eq (r_n (x := (0 : Int32)) (l := 0) (h := 0) (by decide) (by decide)) (r_n (x := (0 : Int32)) (l := 0) (h := 0) (by decide) (by decide))) ?_
            refine tp_u (f_X10_worth_J33.eq_1 _ _ _ _ _ _) ?_
            refine tp_u (f_X10_worth_J34.eq_1 _ _ _ _ _ _ _) ?_
            refine tp_iff (d_ne2 (r_n (x := (1 : Int32)) (l := 1) (h := 1) (by decide) (by decide)) (r_n (x := (0 : Int32)) (l := 0) (h := 0) (by decide) (by decide)) (by decide)) ?_
            refine tp_u (f_X10_worth_J51.eq_1 _ _ _ _ _ _) ?_
            refine tp_u (f_X10_worth_J53.eq_1 _ _ _ _ _ _) ?_
            refine tp_e (f_X10_refused.eq_1 _ _) ?_
            refine tp_niff (d_ne2 (r_n (x := (1 : Int32)) (l := 1) (h := 1) (by decide) (by decide)) (r_n (x := (0 : Int32)) (l := 0) (h := 0) (by decide) (by decide)) (by decide)) ?_
            refine tp_nl ?_
            refine tp_iff (d_ne2 (r_n (x := (1 : Int32)) (l := 1) (h := 1) (by decide) (by decide)) (r_n (x := (0 : Int32)) (l := 0) (h := 0) (by decide) (by decide)) (by decide)) ?_
            exact tp_s (r_w (l' := 0) (h' := 2) (r_n (x := (1 : Int32)) (l := 1) (h := 1) (by decide) (by decide)) (by decide) (by decide))
          · skip
            have r14 : R32 (0) (999) k3 := r_nlt2 (r_n (x := (999 : Int32)) (l := 999) (h := 999) (by decide) (by decide)) r11 c12
            refine tp_nl ?_
            refine tp_iff (d_ne2 (r_n (x := (1 : Int32)) (l := 1) (h := 1) (by decide) (by decide)) (r_n (x := (0 : Int32)) (l := 0) (h := 0) (by decide) (by decide)) (by decide)) ?_
            refine tp_u (f_X10_worth_J34.eq_1 _ _ _ _ _ _ _) ?_
            refine tp_iff (d_ne2 (r_n (x := (1 : Int32)) (l := 1) (h := 1) (by decide) (by decide)) (r_n (x := (0 : Int32)) (l := 0) (h := 0) (by decide) (by decide)) (by decide)) ?_
            refine tp_u (f_X10_worth_J51.eq_1 _ _ _ _ _ _) ?_
            refine tp_u (f_X10_worth_J53.eq_1 _ _ _ _ _ _) ?_
            refine tp_e (f_X10_refused.eq_1 _ _) ?_
            refine tp_niff (d_ne2 (r_n (x := (1 : Int32)) (l := 1) (h := 1) (by decide) (by decide)) (r_n (x := (0 : Int32)) (l := 0) (h := 0) (by decide) (by decide)) (by decide)) ?_
            refine tp_nl ?_
            refine tp_iff (d_ne2 (r_n (x := (1 : Int32)) (l := 1) (h := 1) (by decide) (by decide)) (r_n (x := (0 : Int32)) (l := 0) (h := 0) (by decide) (by decide)) (by decide)) ?_
            exact tp_s (r_w (l' := 0) (h' := 2) (r_n (x := (1 : Int32)) (l := 1) (h := 1) (by decide) (by decide)) (by decide) (by decide))
  · skip
    have r15 : R32 (0) (2147483647) k1 := r_nlt1 (r_top _) (r_n (x := (0 : Int32)) (l := 0) (h := 0) (by decide) (by decide)) c1
    refine tp_nif (fun c16 => ?_) (fun c16 => ?_)
    · skip
      refine tp_nl ?_
      refine tp_nl ?_
      refine tp_nift (d_eq (r_n (x := (0 : Int32)) (l := 0) (h := 0) (by decide) (by decide)) (r_n (x := (0 : Int32)) (l := 0) (h := 0) (by decide) (by decide))) ?_
      refine tp_nl ?_
      refine tp_e (f_X10_within.eq_1 _ _ _) ?_
      refine tp_nif (fun c17 => ?_) (fun c17 => ?_)
      · skip
        have r18 : R32 (-2147483648) (-1) k2 := r_lt1 (by decide) (r_top _) (r_n (x := (0 : Int32)) (l := 0) (h := 0) (by decide) (by decide)) c17
        refine tp_nl ?_
        refine tp_ift (d_eq (r_n (x := (0 : Int32)) (l := 0) (h := 0) (by decide) (by decide)) (r_n (x := (0 : Int32)) (l := 0) (h := 0) (by decide) (by decide))) ?_
        refine tp_u (f_X10_worth_J33.eq_1 _ _ _ _ _ _) ?_
        refine tp_u (f_X10_worth_J34.eq_1 _ _ _ _ _ _ _) ?_
        refine tp_iff (d_ne2 (r_n (x := (1 : Int32)) (l := 1) (h := 1) (by decide) (by decide)) (r_n (x := (0 : Int32)) (l := 0) (h := 0) (by decide) (by decide)) (by decide)) ?_
        refine tp_u (f_X10_worth_J51.eq_1 _ _ _ _ _ _) ?_
        refine tp_u (f_X10_worth_J53.eq_1 _ _ _ _ _ _) ?_
        refine tp_e (f_X10_refused.eq_1 _ _) ?_
        refine tp_niff (d_ne2 (r_n (x := (1 : Int32)) (l := 1) (h := 1) (by decide) (by decide)) (r_n (x := (0 : Int32)) (l := 0) (h := 0) (by decide) (by decide)) (by decide)) ?_
        refine tp_nl ?_
        refine tp_iff (d_ne2 (r_n (x := (1 : Int32)) (l := 1) (h := 1) (by decide) (by decide)) (r_n (x := (0 : Int32)) (l := 0) (h := 0) (by decide) (by decide)) (by decide)) ?_
        exact tp_s (r_w (l' := 0) (h' := 2) (r_n (x := (1 : Int32)) (l := 1) (h := 1) (by decide) (by decide)) (by decide) (by decide))
      · skip
        have r19 : R32 (0) (2147483647) k2 := r_nlt1 (r_top _) (r_n (x := (0 : Int32)) (l := 0) (h := 0) (by decide) (by decide)) c17
        refine tp_nif (fun c20 => ?_) (fun c20 => ?_)
        · skip
          have r21 : R32 (1000) (2147483647) k2 := r_lt2 (by decide) (r_n (x := (999 : Int32)) (l := 999) (h := 999) (by decide) (by decide)) r19 c20
          refine tp_nl ?_
          refine tp_ift (d_eq (r_n (x := (0 : Int32)) (l := 0) (h := 0) (by decide) (by decide)) (r_n (x := (0 : Int32)) (l := 0) (h := 0) (by decide) (by decide))) ?_
          refine tp_u (f_X10_worth_J33.eq_1 _ _ _ _ _ _) ?_
          refine tp_u (f_X10_worth_J34.eq_1 _ _ _ _ _ _ _) ?_
          refine tp_iff (d_ne2 (r_n (x := (1 : Int32)) (l := 1) (h := 1) (by decide) (by decide)) (r_n (x := (0 : Int32)) (l := 0) (h := 0) (by decide) (by decide)) (by decide)) ?_
          refine tp_u (f_X10_worth_J51.eq_1 _ _ _ _ _ _) ?_
          refine tp_u (f_X10_worth_J53.eq_1 _ _ _ _ _ _) ?_
          refine tp_e (f_X10_refused.eq_1 _ _) ?_
          refine tp_niff (d_ne2 (r_n (x := (1 : Int32)) (l := 1) (h := 1) (by decide) (by decide)) (r_n (x := (0 : Int32)) (l := 0) (h := 0) (by decide) (by decide)) (by decide)) ?_
          refine tp_nl ?_
          refine tp_iff (d_ne2 (r_n (x := (1 : Int32)) (l := 1) (h := 1) (by decide) (by decide)) (r_n (x := (0 : Int32)) (l := 0) (h := 0) (by decide) (by decide)) (by decide)) ?_
          exact tp_s (r_w (l' := 0) (h' := 2) (r_n (x := (1 : Int32)) (l := 1) (h := 1) (by decide) (by decide)) (by decide) (by decide))
        · skip
          have r22 : R32 (0) (999) k2 := r_nlt2 (r_n (x := (999 : Int32)) (l := 999) (h := 999) (by decide) (by decide)) r19 c20
          refine tp_nl ?_
          refine tp_iff (d_ne2 (r_n (x := (1 : Int32)) (l := 1) (h := 1) (by decide) (by decide)) (r_n (x := (0 : Int32)) (l := 0) (h := 0) (by decide) (by decide)) (by decide)) ?_
          refine tp_e (f_X10_within.eq_1 _ _ _) ?_
          refine tp_nif (fun c23 => ?_) (fun c23 => ?_)
          · skip
            have r24 : R32 (-2147483648) (998) k3 := r_lt1 (by decide) (r_top _) r22 c23
            refine tp_nl ?_
            refine tp_ift (d_eq (r_n (x := (0 : Int32)) (l := 0) (h := 0) (by decide) (by decide)) (r_n (x := (0 : Int32)) (l := 0) (h := 0) (by decide) (by decide))) ?_
            refine tp_u (f_X10_worth_J33.eq_1 _ _ _ _ _ _) ?_
            refine tp_u (f_X10_worth_J34.eq_1 _ _ _ _ _ _ _) ?_
            refine tp_iff (d_ne2 (r_n (x := (1 : Int32)) (l := 1) (h := 1) (by decide) (by decide)) (r_n (x := (0 : Int32)) (l := 0) (h := 0) (by decide) (by decide)) (by decide)) ?_
            refine tp_u (f_X10_worth_J51.eq_1 _ _ _ _ _ _) ?_
            refine tp_u (f_X10_worth_J53.eq_1 _ _ _ _ _ _) ?_
            refine tp_e (f_X10_refused.eq_1 _ _) ?_
            refine tp_niff (d_ne2 (r_n (x := (1 : Int32)) (l := 1) (h := 1) (by decide) (by decide)) (r_n (x := (0 : Int32)) (l := 0) (h := 0) (by decide) (by decide)) (by decide)) ?_
            refine tp_nl ?_
            refine tp_iff (d_ne2 (r_n (x := (1 : Int32)) (l := 1) (h := 1) (by decide) (by decide)) (r_n (x := (0 : Int32)) (l := 0) (h := 0) (by decide) (by decide)) (by decide)) ?_
            exact tp_s (r_w (l' := 0) (h' := 2) (r_n (x := (1 : Int32)) (l := 1) (h := 1) (by decide) (by decide)) (by decide) (by decide))
          · skip
            have r25 : R32 (0) (2147483647) k3 := r_nlt1 (r_top _) r22 c23
            refine tp_nif (fun c26 => ?_) (fun c26 => ?_)
            · skip
              have r27 : R32 (1000) (2147483647) k3 := r_lt2 (by decide) (r_n (x := (999 : Int32)) (l := 999) (h := 999) (by decide) (by decide)) r25 c26
              refine tp_nl ?_
              refine tp_ift (d_eq (r_n (x := (0 : Int32)) (l := 0) (h := 0) (by decide) (by decide)) (r_n (x := (0 : Int32)) (l := 0) (h := 0) (by decide) (by decide))) ?_
              refine tp_u (f_X10_worth_J33.eq_1 _ _ _ _ _ _) ?_
              refine tp_u (f_X10_worth_J34.eq_1 _ _ _ _ _ _ _) ?_
              refine tp_iff (d_ne2 (r_n (x := (1 : Int32)) (l := 1) (h := 1) (by decide) (by decide)) (r_n (x := (0 : Int32)) (l := 0) (h := 0) (by decide) (by decide)) (by decide)) ?_
              refine tp_u (f_X10_worth_J51.eq_1 _ _ _ _ _ _) ?_
              refine tp_u (f_X10_worth_J53.eq_1 _ _ _ _ _ _) ?_
              refine tp_e (f_X10_refused.eq_1 _ _) ?_
              refine tp_niff (d_ne2 (r_n (x := (1 : Int32)) (l := 1) (h := 1) (by decide) (by decide)) (r_n (x := (0 : Int32)) (l := 0) (h := 0) (by decide) (by decide)) (by decide)) ?_
              refine tp_nl ?_
              refine tp_iff (d_ne2 (r_n (x := (1 : Int32)) (l := 1) (h := 1) (by decide) (by decide)) (r_n (x := (0 : Int32)) (l := 0) (h := 0) (by decide) (by decide)) (by decide)) ?_
              exact tp_s (r_w (l' := 0) (h' := 2) (r_n (x := (1 : Int32)) (l := 1) (h := 1) (by decide) (by decide)) (by decide) (by decide))
            · skip
              have r28 : R32 (0) (999) k3 := r_nlt2 (r_n (x := (999 : Int32)) (l := 999) (h := 999) (by decide) (by decide)) r25 c26
              refine tp_nl ?_
              refine tp_iff (d_ne2 (r_n (x := (1 : Int32)) (l := 1) (h := 1) (by decide) (by decide)) (r_n (x := (0 : Int32)) (l := 0) (h := 0) (by decide) (by decide)) (by decide)) ?_
              refine tp_u (f_X10_worth_J34.eq_1 _ _ _ _ _ _ _) ?_
              refine tp_iff (d_ne2 (r_n (x := (1 : Int32)) (l := 1) (h := 1) (by decide) (by decide)) (r_n (x := (0 : Int32)) (l := 0) (h := 0) (by decide) (by decide)) (by decide)) ?_
              refine tp_u (f_X10_worth_J51.eq_1 _ _ _ _ _ _) ?_
              refine tp_u (f_X10_worth_J53.eq_1 _ _ _ _ _ _) ?_
              refine tp_e (f_X10_refused.eq_1 _ _) ?_
              refine tp_niff (d_ne2 (r_n (x := (1 : Int32)) (l := 1) (h := 1) (by decide) (by decide)) (r_n (x := (0 : Int32)) (l := 0) (h := 0) (by decide) (by decide)) (by decide)) ?_
              refine tp_nl ?_
              refine tp_iff (d_ne2 (r_n (x := (1 : Int32)) (l := 1) (h := 1) (by decide) (by decide)) (r_n (x := (0 : Int32)) (l := 0) (h := 0) (by decide) (by decide)) (by decide)) ?_
              exact tp_s (r_w (l' := 0) (h' := 2) (r_n (x := (1 : Int32)) (l := 1) (h := 1) (by decide) (by decide)) (by decide) (by decide))
    · skip
      have r29 : R32 (0) (5) (p_p.2.2.2.2.2.2.1 - (1 : Int32)) := r_nlt1 (r_sub (l := -1) (h := 5) h_p_p_2_2_2_2_2_2_1 (r_n (x := (1 : Int32)) (l := 1) (h := 1) (by decide) (by decide)) (by decide) (by decide) (by decide) (by decide)) r15 c16
      have r30 : R32 (0) (5) k1 := r_nlt2 (r_sub (l := -1) (h := 5) h_p_p_2_2_2_2_2_2_1 (r_n (x := (1 : Int32)) (l := 1) (h := 1) (by decide) (by decide)) (by decide) (by decide) (by decide) (by decide)) r15 c16
      refine tp_nl ?_
      refine tp_nl ?_
      refine tp_niff (d_ne2 (r_n (x := (1 : Int32)) (l := 1) (h := 1) (by decide) (by decide)) (r_n (x := (0 : Int32)) (l := 0) (h := 0) (by decide) (by decide)) (by decide)) ?_
      refine tp_nl ?_
      refine tp_e (f_X10_within.eq_1 _ _ _) ?_
      refine tp_nif (fun c31 => ?_) (fun c31 => ?_)
      · skip
        have r32 : R32 (-2147483648) (-1) k2 := r_lt1 (by decide) (r_top _) (r_n (x := (0 : Int32)) (l := 0) (h := 0) (by decide) (by decide)) c31
        refine tp_nl ?_
        refine tp_ift (d_eq (r_n (x := (0 : Int32)) (l := 0) (h := 0) (by decide) (by decide)) (r_n (x := (0 : Int32)) (l := 0) (h := 0) (by decide) (by decide))) ?_
        refine tp_u (f_X10_worth_J33.eq_1 _ _ _ _ _ _) ?_
        refine tp_u (f_X10_worth_J34.eq_1 _ _ _ _ _ _ _) ?_
        refine tp_ift (d_eq (r_n (x := (0 : Int32)) (l := 0) (h := 0) (by decide) (by decide)) (r_n (x := (0 : Int32)) (l := 0) (h := 0) (by decide) (by decide))) ?_
        refine tp_ift (d_eq (r_n (x := (0 : Int32)) (l := 0) (h := 0) (by decide) (by decide)) (r_n (x := (0 : Int32)) (l := 0) (h := 0) (by decide) (by decide))) ?_
        refine tp_u (f_X10_worth_J53.eq_1 _ _ _ _ _ _) ?_
        refine tp_e (f_X10_refused.eq_1 _ _) ?_
        refine tp_niff (d_ne2 (r_n (x := (2 : Int32)) (l := 2) (h := 2) (by decide) (by decide)) (r_n (x := (0 : Int32)) (l := 0) (h := 0) (by decide) (by decide)) (by decide)) ?_
        refine tp_nl ?_
        refine tp_iff (d_ne2 (r_n (x := (1 : Int32)) (l := 1) (h := 1) (by decide) (by decide)) (r_n (x := (0 : Int32)) (l := 0) (h := 0) (by decide) (by decide)) (by decide)) ?_
        exact tp_s (r_w (l' := 0) (h' := 2) (r_n (x := (2 : Int32)) (l := 2) (h := 2) (by decide) (by decide)) (by decide) (by decide))
      · skip
        have r33 : R32 (0) (2147483647) k2 := r_nlt1 (r_top _) (r_n (x := (0 : Int32)) (l := 0) (h := 0) (by decide) (by decide)) c31
        refine tp_nif (fun c34 => ?_) (fun c34 => ?_)
        · skip
          have r35 : R32 (1000) (2147483647) k2 := r_lt2 (by decide) (r_n (x := (999 : Int32)) (l := 999) (h := 999) (by decide) (by decide)) r33 c34
          refine tp_nl ?_
          refine tp_ift (d_eq (r_n (x := (0 : Int32)) (l := 0) (h := 0) (by decide) (by decide)) (r_n (x := (0 : Int32)) (l := 0) (h := 0) (by decide) (by decide))) ?_
          refine tp_u (f_X10_worth_J33.eq_1 _ _ _ _ _ _) ?_
          refine tp_u (f_X10_worth_J34.eq_1 _ _ _ _ _ _ _) ?_
          refine tp_ift (d_eq (r_n (x := (0 : Int32)) (l := 0) (h := 0) (by decide) (by decide)) (r_n (x := (0 : Int32)) (l := 0) (h := 0) (by decide) (by decide))) ?_
          refine tp_ift (d_eq (r_n (x := (0 : Int32)) (l := 0) (h := 0) (by decide) (by decide)) (r_n (x := (0 : Int32)) (l := 0) (h := 0) (by decide) (by decide))) ?_
          refine tp_u (f_X10_worth_J53.eq_1 _ _ _ _ _ _) ?_
          refine tp_e (f_X10_refused.eq_1 _ _) ?_
          refine tp_niff (d_ne2 (r_n (x := (2 : Int32)) (l := 2) (h := 2) (by decide) (by decide)) (r_n (x := (0 : Int32)) (l := 0) (h := 0) (by decide) (by decide)) (by decide)) ?_
          refine tp_nl ?_
          refine tp_iff (d_ne2 (r_n (x := (1 : Int32)) (l := 1) (h := 1) (by decide) (by decide)) (r_n (x := (0 : Int32)) (l := 0) (h := 0) (by decide) (by decide)) (by decide)) ?_
          exact tp_s (r_w (l' := 0) (h' := 2) (r_n (x := (2 : Int32)) (l := 2) (h := 2) (by decide) (by decide)) (by decide) (by decide))
        · skip
          have r36 : R32 (0) (999) k2 := r_nlt2 (r_n (x := (999 : Int32)) (l := 999) (h := 999) (by decide) (by decide)) r33 c34
          refine tp_nl ?_
          refine tp_iff (d_ne2 (r_n (x := (1 : Int32)) (l := 1) (h := 1) (by decide) (by decide)) (r_n (x := (0 : Int32)) (l := 0) (h := 0) (by decide) (by decide)) (by decide)) ?_
          refine tp_e (f_X10_within.eq_1 _ _ _) ?_
          refine tp_nif (fun c37 => ?_) (fun c37 => ?_)
          · skip
            have r38 : R32 (-2147483648) (998) k3 := r_lt1 (by decide) (r_top _) r36 c37
            refine tp_nl ?_
            refine tp_ift (d_eq (r_n (x := (0 : Int32)) (l := 0) (h := 0) (by decide) (by decide)) (r_n (x := (0 : Int32)) (l := 0) (h := 0) (by decide) (by decide))) ?_
            refine tp_u (f_X10_worth_J33.eq_1 _ _ _ _ _ _) ?_
            refine tp_u (f_X10_worth_J34.eq_1 _ _ _ _ _ _ _) ?_
            refine tp_ift (d_eq (r_n (x := (0 : Int32)) (l := 0) (h := 0) (by decide) (by decide)) (r_n (x := (0 : Int32)) (l := 0) (h := 0) (by decide) (by decide))) ?_
            refine tp_ift (d_eq (r_n (x := (0 : Int32)) (l := 0) (h := 0) (by decide) (by decide)) (r_n (x := (0 : Int32)) (l := 0) (h := 0) (by decide) (by decide))) ?_
            refine tp_u (f_X10_worth_J53.eq_1 _ _ _ _ _ _) ?_
            refine tp_e (f_X10_refused.eq_1 _ _) ?_
            refine tp_niff (d_ne2 (r_n (x := (2 : Int32)) (l := 2) (h := 2) (by decide) (by decide)) (r_n (x := (0 : Int32)) (l := 0) (h := 0) (by decide) (by decide)) (by decide)) ?_
            refine tp_nl ?_
            refine tp_iff (d_ne2 (r_n (x := (1 : Int32)) (l := 1) (h := 1) (by decide) (by decide)) (r_n (x := (0 : Int32)) (l := 0) (h := 0) (by decide) (by decide)) (by decide)) ?_
            exact tp_s (r_w (l' := 0) (h' := 2) (r_n (x := (2 : Int32)) (l := 2) (h := 2) (by decide) (by decide)) (by decide) (by decide))
          · skip
            have r39 : R32 (0) (2147483647) k3 := r_nlt1 (r_top _) r36 c37
            refine tp_nif (fun c40 => ?_) (fun c40 => ?_)
            · skip
              have r41 : R32 (1000) (2147483647) k3 := r_lt2 (by decide) (r_n (x := (999 : Int32)) (l := 999) (h := 999) (by decide) (by decide)) r39 c40
              refine tp_nl ?_
              refine tp_ift (d_eq (r_n (x := (0 : Int32)) (l := 0) (h := 0) (by decide) (by decide)) (r_n (x := (0 : Int32)) (l := 0) (h := 0) (by decide) (by decide))) ?_
              refine tp_u (f_X10_worth_J33.eq_1 _ _ _ _ _ _) ?_
              refine tp_u (f_X10_worth_J34.eq_1 _ _ _ _ _ _ _) ?_
              refine tp_ift (d_eq (r_n (x := (0 : Int32)) (l := 0) (h := 0) (by decide) (by decide)) (r_n (x := (0 : Int32)) (l := 0) (h := 0) (by decide) (by decide))) ?_
              refine tp_ift (d_eq (r_n (x := (0 : Int32)) (l := 0) (h := 0) (by decide) (by decide)) (r_n (x := (0 : Int32)) (l := 0) (h := 0) (by decide) (by decide))) ?_
              refine tp_u (f_X10_worth_J53.eq_1 _ _ _ _ _ _) ?_
              refine tp_e (f_X10_refused.eq_1 _ _) ?_
              refine tp_niff (d_ne2 (r_n (x := (2 : Int32)) (l := 2) (h := 2) (by decide) (by decide)) (r_n (x := (0 : Int32)) (l := 0) (h := 0) (by decide) (by decide)) (by decide)) ?_
              refine tp_nl ?_
              refine tp_iff (d_ne2 (r_n (x := (1 : Int32)) (l := 1) (h := 1) (by decide) (by decide)) (r_n (x := (0 : Int32)) (l := 0) (h := 0) (by decide) (by decide)) (by decide)) ?_
              exact tp_s (r_w (l' := 0) (h' := 2) (r_n (x := (2 : Int32)) (l := 2) (h := 2) (by decide) (by decide)) (by decide) (by decide))
            · skip
              have r42 : R32 (0) (999) k3 := r_nlt2 (r_n (x := (999 : Int32)) (l := 999) (h := 999) (by decide) (by decide)) r39 c40
              refine tp_nl ?_
              refine tp_iff (d_ne2 (r_n (x := (1 : Int32)) (l := 1) (h := 1) (by decide) (by decide)) (r_n (x := (0 : Int32)) (l := 0) (h := 0) (by decide) (by decide)) (by decide)) ?_
              refine tp_u (f_X10_worth_J34.eq_1 _ _ _ _ _ _ _) ?_
              refine tp_ift (d_eq (r_n (x := (0 : Int32)) (l := 0) (h := 0) (by decide) (by decide)) (r_n (x := (0 : Int32)) (l := 0) (h := 0) (by decide) (by decide))) ?_
              refine tp_iff (d_ne2 (r_n (x := (1 : Int32)) (l := 1) (h := 1) (by decide) (by decide)) (r_n (x := (0 : Int32)) (l := 0) (h := 0) (by decide) (by decide)) (by decide)) ?_
              refine tp_u (f_X10_worth_J51.eq_1 _ _ _ _ _ _) ?_
              refine tp_u (f_X10_worth_J53.eq_1 _ _ _ _ _ _) ?_
              refine tp_e (f_X10_refused.eq_1 _ _) ?_
              refine tp_nift (d_eq (r_n (x := (0 : Int32)) (l := 0) (h := 0) (by decide) (by decide)) (r_n (x := (0 : Int32)) (l := 0) (h := 0) (by decide) (by decide))) ?_
              refine tp_nl ?_
              refine tp_ift (d_eq (r_n (x := (0 : Int32)) (l := 0) (h := 0) (by decide) (by decide)) (r_n (x := (0 : Int32)) (l := 0) (h := 0) (by decide) (by decide))) ?_
              refine tp_b (t_f_X6_worthAfter r30 h_p_p_1 h_p_p_2_1 h_p_p_2_2_2_2_1 h_p_p_2_2_2_2_2_1 h_p_p_2_2_2_2_2_2_1 h_p_p_2_2_2_2_2_2_2_1) (fun o69 h43 => ?_)
              exact tp_s (r_w (l' := 0) (h' := 2) (r_n (x := (0 : Int32)) (l := 0) (h := 0) (by decide) (by decide)) (by decide) (by decide))
theorem t_f_X3_unsold_J28 {k4_ : Int32 → Int32 → Option Int32} {v4_l3 : Int32} {v28_l2 : Int32} {N4 : Nat} (hk4 : ∀ (v4_l3 : Int32) (v4_l2 : Int32), R32 (0) (6) v4_l3 → R32 (0) (63) v4_l2 → (6 : Int) - v4_l3.toInt < (N4 : Nat) → TotP (k4_ v4_l3 v4_l2) (fun (r : Int32) => R32 (0) (63) r)) (hm4 : (6 : Int) - v4_l3.toInt < ((N4 + 1 : Nat) : Int)) (h_v4_l3 : R32 (0) (5) v4_l3) (h_v28_l2 : R32 (0) (63) v28_l2) : TotP (f_X3_unsold_J28 k4_ v4_l3 v28_l2) (fun (r : Int32) => R32 (0) (63) r) := by
  unfold f_X3_unsold_J28
  exact hk4 _ _ (r_w (l' := 0) (h' := 6) (r_add (l := 1) (h := 6) h_v4_l3 (r_n (x := (1 : Int32)) (l := 1) (h := 1) (by decide) (by decide)) (by decide) (by decide) (by decide) (by decide)) (by decide) (by decide)) h_v28_l2 (ms_up (y := (1 : Int32)) h_v4_l3 (by decide) (by decide) (by decide) hm4)
theorem t_f_X3_unsold_L4 {p_p : TX6_p} {n_n : TX4_n} (h_p_p_1 : R32 (1) (8) p_p.1) (h_p_p_2_1 : R32 (0) (9) p_p.2.1) (h_p_p_2_2_2_2_1 : R32 (0) (4) p_p.2.2.2.2.1) (h_p_p_2_2_2_2_2_1 : R32 (0) (5) p_p.2.2.2.2.2.1) (h_p_p_2_2_2_2_2_2_1 : R32 (0) (6) p_p.2.2.2.2.2.2.1) (h_p_p_2_2_2_2_2_2_2_1 : R32 (0) (6) p_p.2.2.2.2.2.2.2.1) : ∀ (n : Nat) (v4_l3 : Int32) (v4_l2 : Int32), R32 (0) (6) v4_l3 → R32 (0) (63) v4_l2 → (6 : Int) - v4_l3.toInt < (n : Int) → TotP (f_X3_unsold_L4 p_p n_n n v4_l3 v4_l2) (fun (r : Int32) => R32 (0) (63) r) := by
  intro n
  induction n with
  | zero =>
    intro v4_l3 v4_l2 h_v4_l3 h_v4_l2 hm
    exact (ms_0u h_v4_l3 hm).elim
  | succ n ih =>
    intro v4_l3 v4_l2 h_v4_l3 h_v4_l2 hm
    rw [f_X3_unsold_L4]
    refine tp_if (fun c1 => ?_) (fun c1 => ?_)
    · skip
      exact tp_s h_v4_l2
    · skip
      have r2 : R32 (1) (6) p_p.2.2.2.2.2.2.1 := r_nle1 (by decide) h_p_p_2_2_2_2_2_2_1 h_v4_l3 c1
      have r3 : R32 (0) (5) v4_l3 := r_nle2 (by decide) h_p_p_2_2_2_2_2_2_1 h_v4_l3 c1
      refine tp_g r3 (by decide) (by decide) ?_
      refine tp_if (fun c4 => ?_) (fun c4 => ?_)
      · skip
        have r5 : R32 (1) (1) (n_n.2.2.2.1 (v4_l3).toNatClampNeg) := r_eq1 (l := 1) (h := 1) (by decide) (by decide) (r_top _) (r_n (x := (1 : Int32)) (l := 1) (h := 1) (by decide) (by decide)) c4
        exact t_f_X3_unsold_J28 ih hm r3 (r_or 6 63 h_v4_l2 (r_shl 0 5 (l := 1) (h := 32) r3 (by decide) (by decide) (by decide)) (by decide) (by decide) (by decide) (by decide) (by decide))
      · skip
        exact t_f_X3_unsold_J28 ih hm r3 h_v4_l2
theorem t_f_X3_unsold {p_p : TX6_p} {n_n : TX4_n} (h_p_p_1 : R32 (1) (8) p_p.1) (h_p_p_2_1 : R32 (0) (9) p_p.2.1) (h_p_p_2_2_2_2_1 : R32 (0) (4) p_p.2.2.2.2.1) (h_p_p_2_2_2_2_2_1 : R32 (0) (5) p_p.2.2.2.2.2.1) (h_p_p_2_2_2_2_2_2_1 : R32 (0) (6) p_p.2.2.2.2.2.2.1) (h_p_p_2_2_2_2_2_2_2_1 : R32 (0) (6) p_p.2.2.2.2.2.2.2.1) : TotP (f_X3_unsold p_p n_n) (fun (r : Int32) => R32 (0) (63) r) := by
  unfold f_X3_unsold
  exact t_f_X3_unsold_L4 h_p_p_1 h_p_p_2_1 h_p_p_2_2_2_2_1 h_p_p_2_2_2_2_2_1 h_p_p_2_2_2_2_2_2_1 h_p_p_2_2_2_2_2_2_2_1 FU _ _ (r_w (l' := 0) (h' := 6) (r_n (x := (0 : Int32)) (l := 0) (h := 0) (by decide) (by decide)) (by decide) (by decide)) (r_w (l' := 0) (h' := 63) (r_n (x := (0 : Int32)) (l := 0) (h := 0) (by decide) (by decide)) (by decide) (by decide)) (fu_up (r_w (l' := 0) (h' := 6) (r_n (x := (0 : Int32)) (l := 0) (h := 0) (by decide) (by decide)) (by decide) (by decide)) (by decide))
theorem t_f_X3_worthTogether_J38 {k6_ : Int32 → Int32 → Option Int32} {v6_l5 : Int32} {v38_l4 : Int32} {N6 : Nat} (hk6 : ∀ (v6_l5 : Int32) (v6_l4 : Int32), R32 (0) (6) v6_l5 → (6 : Int) - v6_l5.toInt < (N6 : Nat) → TotP (k6_ v6_l5 v6_l4) (fun (r : Int32) => True)) (hm6 : (6 : Int) - v6_l5.toInt < ((N6 + 1 : Nat) : Int)) (h_v6_l5 : R32 (0) (5) v6_l5) : TotP (f_X3_worthTogether_J38 k6_ v6_l5 v38_l4) (fun (r : Int32) => True) := by
  unfold f_X3_worthTogether_J38
  exact hk6 _ _ (r_w (l' := 0) (h' := 6) (r_add (l := 1) (h := 6) h_v6_l5 (r_n (x := (1 : Int32)) (l := 1) (h := 1) (by decide) (by decide)) (by decide) (by decide) (by decide) (by decide)) (by decide) (by decide)) (ms_up (y := (1 : Int32)) h_v6_l5 (by decide) (by decide) (by decide) hm6)
theorem t_f_X3_worthTogether_L6 {k2 : Int32} {k3 : Int32} {p_p : TX6_p} {n_n : TX4_n} (h_k2 : R32 (0) (63) k2) (h_p_p_1 : R32 (1) (8) p_p.1) (h_p_p_2_1 : R32 (0) (9) p_p.2.1) (h_p_p_2_2_2_2_1 : R32 (0) (4) p_p.2.2.2.2.1) (h_p_p_2_2_2_2_2_1 : R32 (0) (5) p_p.2.2.2.2.2.1) (h_p_p_2_2_2_2_2_2_1 : R32 (0) (6) p_p.2.2.2.2.2.2.1) (h_p_p_2_2_2_2_2_2_2_1 : R32 (0) (6) p_p.2.2.2.2.2.2.2.1) : ∀ (n : Nat) (v6_l5 : Int32) (v6_l4 : Int32), R32 (0) (6) v6_l5 → (6 : Int) - v6_l5.toInt < (n : Int) → TotP (f_X3_worthTogether_L6 k2 k3 p_p n_n n v6_l5 v6_l4) (fun (r : Int32) => True) := by
  intro n
  induction n with
  | zero =>
    intro v6_l5 v6_l4 h_v6_l5 hm
    exact (ms_0u h_v6_l5 hm).elim
  | succ n ih =>
    intro v6_l5 v6_l4 h_v6_l5 hm
    rw [f_X3_worthTogether_L6]
    refine tp_if (fun c1 => ?_) (fun c1 => ?_)
    · skip
      exact tp_s trivial
    · skip
      have r2 : R32 (1) (6) p_p.2.2.2.2.2.2.1 := r_nle1 (by decide) h_p_p_2_2_2_2_2_2_1 h_v6_l5 c1
      have r3 : R32 (0) (5) v6_l5 := r_nle2 (by decide) h_p_p_2_2_2_2_2_2_1 h_v6_l5 c1
      refine tp_if (fun c4 => ?_) (fun c4 => ?_)
      · skip
        have r5 : R32 (1) (1) ((k2 >>> (v6_l5 &&& (31 : Int32))) &&& (1 : Int32)) := r_eq1 (l := 1) (h := 1) (by decide) (by decide) r_and1 (r_n (x := (1 : Int32)) (l := 1) (h := 1) (by decide) (by decide)) c4
        refine tp_b (t_f_X3_worthOn r3 (r_w (l' := 0) (h' := 8) h_p_p_1 (by decide) (by decide)) h_p_p_2_1 h_p_p_2_2_2_2_1 h_p_p_2_2_2_2_2_1 (r_w (l' := 0) (h' := 6) r2 (by decide) (by decide)) h_p_p_2_2_2_2_2_2_2_1) (fun o32 h6 => ?_)
        exact t_f_X3_worthTogether_J38 ih hm r3
      · skip
        have r7 : R32 (0) (0) ((k2 >>> (v6_l5 &&& (31 : Int32))) &&& (1 : Int32)) := r_neH (by decide) r_and1 (r_n (x := (1 : Int32)) (l := 1) (h := 1) (by decide) (by decide)) c4
        exact t_f_X3_worthTogether_J38 ih hm r3
theorem t_f_X3_worthTogether {k2 : Int32} {k3 : Int32} {p_p : TX6_p} {n_n : TX4_n} (h_k2 : R32 (0) (63) k2) (h_p_p_1 : R32 (1) (8) p_p.1) (h_p_p_2_1 : R32 (0) (9) p_p.2.1) (h_p_p_2_2_2_2_1 : R32 (0) (4) p_p.2.2.2.2.1) (h_p_p_2_2_2_2_2_1 : R32 (0) (5) p_p.2.2.2.2.2.1) (h_p_p_2_2_2_2_2_2_1 : R32 (0) (6) p_p.2.2.2.2.2.2.1) (h_p_p_2_2_2_2_2_2_2_1 : R32 (0) (6) p_p.2.2.2.2.2.2.2.1) : TotP (f_X3_worthTogether k2 k3 p_p n_n) (fun (r : Int32) => True) := by
  unfold f_X3_worthTogether
  exact t_f_X3_worthTogether_L6 h_k2 h_p_p_1 h_p_p_2_1 h_p_p_2_2_2_2_1 h_p_p_2_2_2_2_2_1 h_p_p_2_2_2_2_2_2_1 h_p_p_2_2_2_2_2_2_2_1 FU _ _ (r_w (l' := 0) (h' := 6) (r_n (x := (0 : Int32)) (l := 0) (h := 0) (by decide) (by decide)) (by decide) (by decide)) (fu_up (r_w (l' := 0) (h' := 6) (r_n (x := (0 : Int32)) (l := 0) (h := 0) (by decide) (by decide)) (by decide) (by decide)) (by decide))
theorem t_f_X3_bestLoad_J99 {k15_ : Int32 → Int32 → Int32 → Option Int32} {v15_l6 : Int32} {v99_l5 : Int32} {v99_l4 : Int32} {N15 : Nat} (hk15 : ∀ (v15_l6 : Int32) (v15_l5 : Int32) (v15_l4 : Int32), R32 (1) (64) v15_l6 → R32 (0) (2147483647) v15_l5 → R32 (0) (63) v15_l4 → (64 : Int) - v15_l6.toInt < (N15 : Nat) → TotP (k15_ v15_l6 v15_l5 v15_l4) (fun (r : Int32) => R32 (0) (63) r)) (hm15 : (64 : Int) - v15_l6.toInt < ((N15 + 1 : Nat) : Int)) (h_v15_l6 : R32 (1) (63) v15_l6) (h_v99_l5 : R32 (0) (2147483647) v99_l5) (h_v99_l4 : R32 (0) (63) v99_l4) : TotP (f_X3_bestLoad_J99 k15_ v15_l6 v99_l5 v99_l4) (fun (r : Int32) => R32 (0) (63) r) := by
  unfold f_X3_bestLoad_J99
  exact hk15 _ _ _ (r_w (l' := 1) (h' := 64) (r_add (l := 2) (h := 64) h_v15_l6 (r_n (x := (1 : Int32)) (l := 1) (h := 1) (by decide) (by decide)) (by decide) (by decide) (by decide) (by decide)) (by decide) (by decide)) h_v99_l5 h_v99_l4 (ms_up (y := (1 : Int32)) h_v15_l6 (by decide) (by decide) (by decide) hm15)
theorem t_f_X3_bestLoad_J91 {k15_ : Int32 → Int32 → Int32 → Option Int32} {o47 : Int32} {v15_l6 : Int32} {N15 : Nat} (hk15 : ∀ (v15_l6 : Int32) (v15_l5 : Int32) (v15_l4 : Int32), R32 (1) (64) v15_l6 → R32 (0) (2147483647) v15_l5 → R32 (0) (63) v15_l4 → (64 : Int) - v15_l6.toInt < (N15 : Nat) → TotP (k15_ v15_l6 v15_l5 v15_l4) (fun (r : Int32) => R32 (0) (63) r)) (hm15 : (64 : Int) - v15_l6.toInt < ((N15 + 1 : Nat) : Int)) (h_o47 : R32 (0) (2147483647) o47) (h_v15_l6 : R32 (1) (63) v15_l6) : TotP (f_X3_bestLoad_J91 k15_ o47 v15_l6) (fun (r : Int32) => R32 (0) (63) r) := by
  unfold f_X3_bestLoad_J91
  exact t_f_X3_bestLoad_J99 hk15 hm15 h_v15_l6 h_o47 (r_w (l' := 0) (h' := 63) h_v15_l6 (by decide) (by decide))
theorem t_f_X3_bestLoad_J70 {k15_ : Int32 → Int32 → Int32 → Option Int32} {o47 : Int32} {v15_l4 : Int32} {v15_l5 : Int32} {v15_l6 : Int32} {v70_t0 : Int32} {N15 : Nat} (hk15 : ∀ (v15_l6 : Int32) (v15_l5 : Int32) (v15_l4 : Int32), R32 (1) (64) v15_l6 → R32 (0) (2147483647) v15_l5 → R32 (0) (63) v15_l4 → (64 : Int) - v15_l6.toInt < (N15 : Nat) → TotP (k15_ v15_l6 v15_l5 v15_l4) (fun (r : Int32) => R32 (0) (63) r)) (hm15 : (64 : Int) - v15_l6.toInt < ((N15 + 1 : Nat) : Int)) (h_v15_l4 : R32 (0) (63) v15_l4) (h_v15_l5 : R32 (0) (2147483647) v15_l5) (h_v15_l6 : R32 (1) (63) v15_l6) (h_v70_t0 : R32 (0) (1) v70_t0) : TotP (f_X3_bestLoad_J70 k15_ o47 v15_l4 v15_l5 v15_l6 v70_t0) (fun (r : Int32) => R32 (0) (63) r) := by
  unfold f_X3_bestLoad_J70
  refine tp_if (fun c1 => ?_) (fun c1 => ?_)
  · skip
    have r2 : R32 (0) (2147483646) v15_l5 := r_lt1 (by decide) h_v15_l5 (r_top _) c1
    have r3 : R32 (1) (2147483647) o47 := r_lt2 (by decide) h_v15_l5 (r_top _) c1
    exact t_f_X3_bestLoad_J91 hk15 hm15 (r_w (l' := 0) (h' := 2147483647) r3 (by decide) (by decide)) h_v15_l6
  · skip
    refine tp_if (fun c4 => ?_) (fun c4 => ?_)
    · skip
      have r5 : R32 (0) (2147483647) o47 := r_eq1 (l := 0) (h := 2147483647) (by decide) (by decide) (r_top _) h_v15_l5 c4
      refine tp_if (fun c6 => ?_) (fun c6 => ?_)
      · skip
        have r7 : R32 (0) (0) v70_t0 := r_eq1 (l := 0) (h := 0) (by decide) (by decide) h_v70_t0 (r_n (x := (0 : Int32)) (l := 0) (h := 0) (by decide) (by decide)) c6
        exact t_f_X3_bestLoad_J99 hk15 hm15 h_v15_l6 h_v15_l5 h_v15_l4
      · skip
        have r8 : R32 (1) (1) v70_t0 := r_neL (by decide) h_v70_t0 (r_n (x := (0 : Int32)) (l := 0) (h := 0) (by decide) (by decide)) c6
        exact t_f_X3_bestLoad_J91 hk15 hm15 r5 h_v15_l6
    · skip
      exact t_f_X3_bestLoad_J99 hk15 hm15 h_v15_l6 h_v15_l5 h_v15_l4
theorem t_f_X3_bestLoad_L15 {k2 : Int32} {p_p : TX6_p} {n_n : TX4_n} {o2 : Int32} (h_k2 : R32 (0) (6) k2) (h_p_p_1 : R32 (1) (8) p_p.1) (h_p_p_2_1 : R32 (0) (9) p_p.2.1) (h_p_p_2_2_2_2_1 : R32 (0) (4) p_p.2.2.2.2.1) (h_p_p_2_2_2_2_2_1 : R32 (0) (5) p_p.2.2.2.2.2.1) (h_p_p_2_2_2_2_2_2_1 : R32 (0) (6) p_p.2.2.2.2.2.2.1) (h_p_p_2_2_2_2_2_2_2_1 : R32 (0) (6) p_p.2.2.2.2.2.2.2.1) (h_o2 : R32 (0) (63) o2) : ∀ (n : Nat) (v15_l6 : Int32) (v15_l5 : Int32) (v15_l4 : Int32), R32 (1) (64) v15_l6 → R32 (0) (2147483647) v15_l5 → R32 (0) (63) v15_l4 → (64 : Int) - v15_l6.toInt < (n : Int) → TotP (f_X3_bestLoad_L15 k2 p_p n_n o2 n v15_l6 v15_l5 v15_l4) (fun (r : Int32) => R32 (0) (63) r) := by
  intro n
  induction n with
  | zero =>
    intro v15_l6 v15_l5 v15_l4 h_v15_l6 h_v15_l5 h_v15_l4 hm
    exact (ms_0u h_v15_l6 hm).elim
  | succ n ih =>
    intro v15_l6 v15_l5 v15_l4 h_v15_l6 h_v15_l5 h_v15_l4 hm
    rw [f_X3_bestLoad_L15]
    refine tp_if (fun c1 => ?_) (fun c1 => ?_)
    · skip
      exact tp_s h_v15_l4
    · skip
      have r2 : R32 (1) (63) o2 := r_nlt1 h_o2 h_v15_l6 c1
      have r3 : R32 (1) (63) v15_l6 := r_nlt2 h_o2 h_v15_l6 c1
      refine tp_if (fun c4 => ?_) (fun c4 => ?_)
      · skip
        have r5 : R32 (0) (0) (v15_l6 &&& (o2 ^^^ (-1 : Int32))) := r_eq1 (l := 0) (h := 0) (by decide) (by decide) (r_top _) (r_n (x := (0 : Int32)) (l := 0) (h := 0) (by decide) (by decide)) c4
        refine tp_n0 (fun o32 => ?_)
        refine tp_if (fun c6 => ?_) (fun c6 => ?_)
        · skip
          have r7 : R32 (1) (2147483647) o32 := r_lt2 (by decide) h_k2 (r_top _) c6
          exact t_f_X3_bestLoad_J99 ih hm r3 h_v15_l5 h_v15_l4
        · skip
          have r8 : R32 (-2147483648) (6) o32 := r_nlt2 h_k2 (r_top _) c6
          refine tp_b (t_f_X3_worthTogether (r_w (l' := 0) (h' := 63) r3 (by decide) (by decide)) h_p_p_1 h_p_p_2_1 h_p_p_2_2_2_2_1 h_p_p_2_2_2_2_2_1 h_p_p_2_2_2_2_2_2_1 h_p_p_2_2_2_2_2_2_2_1) (fun o47 h9 => ?_)
          refine tp_n0 (fun o54 => ?_)
          refine tp_n0 (fun o59 => ?_)
          refine tp_if (fun c10 => ?_) (fun c10 => ?_)
          · skip
            exact t_f_X3_bestLoad_J70 ih hm h_v15_l4 h_v15_l5 r3 (r_w (l' := 0) (h' := 1) (r_n (x := (0 : Int32)) (l := 0) (h := 0) (by decide) (by decide)) (by decide) (by decide))
          · skip
            have r11 : R32 (-2147483647) (2147483647) o59 := r_nle1 (by decide) (r_top _) (r_top _) c10
            have r12 : R32 (-2147483648) (2147483646) o54 := r_nle2 (by decide) (r_top _) (r_top _) c10
            exact t_f_X3_bestLoad_J70 ih hm h_v15_l4 h_v15_l5 r3 (r_w (l' := 0) (h' := 1) (r_n (x := (1 : Int32)) (l := 1) (h := 1) (by decide) (by decide)) (by decide) (by decide))
      · skip
        exact t_f_X3_bestLoad_J99 ih hm r3 h_v15_l5 h_v15_l4
theorem t_f_X3_bestLoad {k2 : Int32} {p_p : TX6_p} {n_n : TX4_n} (h_k2 : R32 (0) (6) k2) (h_p_p_1 : R32 (1) (8) p_p.1) (h_p_p_2_1 : R32 (0) (9) p_p.2.1) (h_p_p_2_2_2_2_1 : R32 (0) (4) p_p.2.2.2.2.1) (h_p_p_2_2_2_2_2_1 : R32 (0) (5) p_p.2.2.2.2.2.1) (h_p_p_2_2_2_2_2_2_1 : R32 (0) (6) p_p.2.2.2.2.2.2.1) (h_p_p_2_2_2_2_2_2_2_1 : R32 (0) (6) p_p.2.2.2.2.2.2.2.1) : TotP (f_X3_bestLoad k2 p_p n_n) (fun (r : Int32) => R32 (0) (63) r) := by
  unfold f_X3_bestLoad
  refine tp_b (t_f_X3_unsold h_p_p_1 h_p_p_2_1 h_p_p_2_2_2_2_1 h_p_p_2_2_2_2_2_1 h_p_p_2_2_2_2_2_2_1 h_p_p_2_2_2_2_2_2_2_1) (fun o2 h1 => ?_)
  exact t_f_X3_bestLoad_L15 h_k2 h_p_p_1 h_p_p_2_1 h_p_p_2_2_2_2_1 h_p_p_2_2_2_2_2_1 h_p_p_2_2_2_2_2_2_1 h_p_p_2_2_2_2_2_2_2_1 h1 FU _ _ _ (r_w (l' := 1) (h' := 64) (r_n (x := (1 : Int32)) (l := 1) (h := 1) (by decide) (by decide)) (by decide) (by decide)) (r_w (l' := 0) (h' := 2147483647) (r_n (x := (0 : Int32)) (l := 0) (h := 0) (by decide) (by decide)) (by decide) (by decide)) (r_w (l' := 0) (h' := 63) (r_n (x := (0 : Int32)) (l := 0) (h := 0) (by decide) (by decide)) (by decide) (by decide)) (fu_up (r_w (l' := 1) (h' := 64) (r_n (x := (1 : Int32)) (l := 1) (h := 1) (by decide) (by decide)) (by decide) (by decide)) (by decide))
theorem t_f_X10_load {k1 : Int32} {x_x : TX10_x} {p_p : TX6_p} {n_n : TX4_n} (h_p_p_1 : R32 (0) (8) p_p.1) (h_p_p_2_1 : R32 (0) (9) p_p.2.1) (h_p_p_2_2_2_2_1 : R32 (0) (4) p_p.2.2.2.2.1) (h_p_p_2_2_2_2_2_1 : R32 (0) (5) p_p.2.2.2.2.2.1) (h_p_p_2_2_2_2_2_2_1 : R32 (0) (6) p_p.2.2.2.2.2.2.1) (h_p_p_2_2_2_2_2_2_2_1 : R32 (0) (6) p_p.2.2.2.2.2.2.2.1) : TotP (f_X10_load k1 x_x p_p n_n) (fun (r : Int32 × TX10_x) => R32 (-1) (63) r.1 ∧ R32 (0) (2) r.2.1) := by
  unfold f_X10_load
  refine tp_e (f_X10_within.eq_1 _ _ _) ?_
  refine tp_nif (fun c1 => ?_) (fun c1 => ?_)
  · skip
    have r2 : R32 (-2147483648) (-1) k1 := r_lt1 (by decide) (r_top _) (r_n (x := (0 : Int32)) (l := 0) (h := 0) (by decide) (by decide)) c1
    refine tp_nl ?_
    refine tp_e (f_X10_numberTrouble.eq_1 _ _) ?_
    refine tp_nn ?_
    refine tp_e (f_X10_pierTrouble.eq_1 _) ?_
    refine tp_nif (fun c3 => ?_) (fun c3 => ?_)
    · skip
      have r4 : R32 (0) (0) p_p.1 := r_eq1 (l := 0) (h := 0) (by decide) (by decide) h_p_p_1 (r_n (x := (0 : Int32)) (l := 0) (h := 0) (by decide) (by decide)) c3
      refine tp_nl ?_
      refine tp_niff (d_ne2 (r_n (x := (1 : Int32)) (l := 1) (h := 1) (by decide) (by decide)) (r_n (x := (0 : Int32)) (l := 0) (h := 0) (by decide) (by decide)) (by decide)) ?_
      refine tp_e (f_X10_numberTrouble_J17.eq_1 _) ?_
      refine tp_nl ?_
      refine tp_e (f_X10_refused.eq_1 _ _) ?_
      refine tp_niff (d_ne2 (r_n (x := (1 : Int32)) (l := 1) (h := 1) (by decide) (by decide)) (r_n (x := (0 : Int32)) (l := 0) (h := 0) (by decide) (by decide)) (by decide)) ?_
      refine tp_nl ?_
      refine tp_iff (d_ne2 (r_n (x := (1 : Int32)) (l := 1) (h := 1) (by decide) (by decide)) (r_n (x := (0 : Int32)) (l := 0) (h := 0) (by decide) (by decide)) (by decide)) ?_
      exact tp_s ⟨(r_w (l' := -1) (h' := 63) (r_n (x := (-1 : Int32)) (l := -1) (h := -1) (by decide) (by decide)) (by decide) (by decide)), (r_w (l' := 0) (h' := 2) (r_n (x := (1 : Int32)) (l := 1) (h := 1) (by decide) (by decide)) (by decide) (by decide))⟩
    · skip
      have r5 : R32 (1) (8) p_p.1 := r_neL (by decide) h_p_p_1 (r_n (x := (0 : Int32)) (l := 0) (h := 0) (by decide) (by decide)) c3
      refine tp_nl ?_
      refine tp_nift (d_eq (r_n (x := (0 : Int32)) (l := 0) (h := 0) (by decide) (by decide)) (r_n (x := (0 : Int32)) (l := 0) (h := 0) (by decide) (by decide))) ?_
      refine tp_nift (d_eq (r_n (x := (0 : Int32)) (l := 0) (h := 0) (by decide) (by decide)) (r_n (x := (0 : Int32)) (l := 0) (h := 0) (by decide) (by decide))) ?_
      refine tp_nl ?_
      refine tp_e (f_X10_refused.eq_1 _ _) ?_
      refine tp_niff (d_ne2 (r_n (x := (2 : Int32)) (l := 2) (h := 2) (by decide) (by decide)) (r_n (x := (0 : Int32)) (l := 0) (h := 0) (by decide) (by decide)) (by decide)) ?_
      refine tp_nl ?_
      refine tp_iff (d_ne2 (r_n (x := (1 : Int32)) (l := 1) (h := 1) (by decide) (by decide)) (r_n (x := (0 : Int32)) (l := 0) (h := 0) (by decide) (by decide)) (by decide)) ?_
      exact tp_s ⟨(r_w (l' := -1) (h' := 63) (r_n (x := (-1 : Int32)) (l := -1) (h := -1) (by decide) (by decide)) (by decide) (by decide)), (r_w (l' := 0) (h' := 2) (r_n (x := (2 : Int32)) (l := 2) (h := 2) (by decide) (by decide)) (by decide) (by decide))⟩
  · skip
    have r6 : R32 (0) (2147483647) k1 := r_nlt1 (r_top _) (r_n (x := (0 : Int32)) (l := 0) (h := 0) (by decide) (by decide)) c1
    refine tp_nif (fun c7 => ?_) (fun c7 => ?_)
    · skip
      have r8 : R32 (7) (2147483647) k1 := r_lt2 (by decide) (r_n (x := (6 : Int32)) (l := 6) (h := 6) (by decide) (by decide)) r6 c7
      refine tp_nl ?_
      refine tp_e (f_X10_numberTrouble.eq_1 _ _) ?_
      refine tp_nn ?_
      refine tp_e (f_X10_pierTrouble.eq_1 _) ?_
      refine tp_nif (fun c9 => ?_) (fun c9 => ?_)
      · skip
        have r10 : R32 (0) (0) p_p.1 := r_eq1 (l := 0) (h := 0) (by decide) (by decide) h_p_p_1 (r_n (x := (0 : Int32)) (l := 0) (h := 0) (by decide) (by decide)) c9
        refine tp_nl ?_
        refine tp_niff (d_ne2 (r_n (x := (1 : Int32)) (l := 1) (h := 1) (by decide) (by decide)) (r_n (x := (0 : Int32)) (l := 0) (h := 0) (by decide) (by decide)) (by decide)) ?_
        refine tp_e (f_X10_numberTrouble_J17.eq_1 _) ?_
        refine tp_nl ?_
        refine tp_e (f_X10_refused.eq_1 _ _) ?_
        refine tp_niff (d_ne2 (r_n (x := (1 : Int32)) (l := 1) (h := 1) (by decide) (by decide)) (r_n (x := (0 : Int32)) (l := 0) (h := 0) (by decide) (by decide)) (by decide)) ?_
        refine tp_nl ?_
        refine tp_iff (d_ne2 (r_n (x := (1 : Int32)) (l := 1) (h := 1) (by decide) (by decide)) (r_n (x := (0 : Int32)) (l := 0) (h := 0) (by decide) (by decide)) (by decide)) ?_
        exact tp_s ⟨(r_w (l' := -1) (h' := 63) (r_n (x := (-1 : Int32)) (l := -1) (h := -1) (by decide) (by decide)) (by decide) (by decide)), (r_w (l' := 0) (h' := 2) (r_n (x := (1 : Int32)) (l := 1) (h := 1) (by decide) (by decide)) (by decide) (by decide))⟩
      · skip
        have r11 : R32 (1) (8) p_p.1 := r_neL (by decide) h_p_p_1 (r_n (x := (0 : Int32)) (l := 0) (h := 0) (by decide) (by decide)) c9
        refine tp_nl ?_
        refine tp_nift (d_eq (r_n (x := (0 : Int32)) (l := 0) (h := 0) (by decide) (by decide)) (r_n (x := (0 : Int32)) (l := 0) (h := 0) (by decide) (by decide))) ?_
        refine tp_nift (d_eq (r_n (x := (0 : Int32)) (l := 0) (h := 0) (by decide) (by decide)) (r_n (x := (0 : Int32)) (l := 0) (h := 0) (by decide) (by decide))) ?_
        refine tp_nl ?_
        refine tp_e (f_X10_refused.eq_1 _ _) ?_
        refine tp_niff (d_ne2 (r_n (x := (2 : Int32)) (l := 2) (h := 2) (by decide) (by decide)) (r_n (x := (0 : Int32)) (l := 0) (h := 0) (by decide) (by decide)) (by decide)) ?_
        refine tp_nl ?_
        refine tp_iff (d_ne2 (r_n (x := (1 : Int32)) (l := 1) (h := 1) (by decide) (by decide)) (r_n (x := (0 : Int32)) (l := 0) (h := 0) (by decide) (by decide)) (by decide)) ?_
        exact tp_s ⟨(r_w (l' := -1) (h' := 63) (r_n (x := (-1 : Int32)) (l := -1) (h := -1) (by decide) (by decide)) (by decide) (by decide)), (r_w (l' := 0) (h' := 2) (r_n (x := (2 : Int32)) (l := 2) (h := 2) (by decide) (by decide)) (by decide) (by decide))⟩
    · skip
      have r12 : R32 (0) (6) k1 := r_nlt2 (r_n (x := (6 : Int32)) (l := 6) (h := 6) (by decide) (by decide)) r6 c7
      refine tp_nl ?_
      refine tp_e (f_X10_numberTrouble.eq_1 _ _) ?_
      refine tp_nn ?_
      refine tp_e (f_X10_pierTrouble.eq_1 _) ?_
      refine tp_nif (fun c13 => ?_) (fun c13 => ?_)
      · skip
        have r14 : R32 (0) (0) p_p.1 := r_eq1 (l := 0) (h := 0) (by decide) (by decide) h_p_p_1 (r_n (x := (0 : Int32)) (l := 0) (h := 0) (by decide) (by decide)) c13
        refine tp_nl ?_
        refine tp_niff (d_ne2 (r_n (x := (1 : Int32)) (l := 1) (h := 1) (by decide) (by decide)) (r_n (x := (0 : Int32)) (l := 0) (h := 0) (by decide) (by decide)) (by decide)) ?_
        refine tp_e (f_X10_numberTrouble_J17.eq_1 _) ?_
        refine tp_nl ?_
        refine tp_e (f_X10_refused.eq_1 _ _) ?_
        refine tp_niff (d_ne2 (r_n (x := (1 : Int32)) (l := 1) (h := 1) (by decide) (by decide)) (r_n (x := (0 : Int32)) (l := 0) (h := 0) (by decide) (by decide)) (by decide)) ?_
        refine tp_nl ?_
        refine tp_iff (d_ne2 (r_n (x := (1 : Int32)) (l := 1) (h := 1) (by decide) (by decide)) (r_n (x := (0 : Int32)) (l := 0) (h := 0) (by decide) (by decide)) (by decide)) ?_
        exact tp_s ⟨(r_w (l' := -1) (h' := 63) (r_n (x := (-1 : Int32)) (l := -1) (h := -1) (by decide) (by decide)) (by decide) (by decide)), (r_w (l' := 0) (h' := 2) (r_n (x := (1 : Int32)) (l := 1) (h := 1) (by decide) (by decide)) (by decide) (by decide))⟩
      · skip
        have r15 : R32 (1) (8) p_p.1 := r_neL (by decide) h_p_p_1 (r_n (x := (0 : Int32)) (l := 0) (h := 0) (by decide) (by decide)) c13
        refine tp_nl ?_
        refine tp_nift (d_eq (r_n (x := (0 : Int32)) (l := 0) (h := 0) (by decide) (by decide)) (r_n (x := (0 : Int32)) (l := 0) (h := 0) (by decide) (by decide))) ?_
        refine tp_niff (d_ne2 (r_n (x := (1 : Int32)) (l := 1) (h := 1) (by decide) (by decide)) (r_n (x := (0 : Int32)) (l := 0) (h := 0) (by decide) (by decide)) (by decide)) ?_
        refine tp_e (f_X10_numberTrouble_J17.eq_1 _) ?_
        refine tp_nl ?_
        refine tp_e (f_X10_refused.eq_1 _ _) ?_
        refine tp_nift (d_eq (r_n (x := (0 : Int32)) (l := 0) (h := 0) (by decide) (by decide)) (r_n (x := (0 : Int32)) (l := 0) (h := 0) (by decide) (by decide))) ?_
        refine tp_nl ?_
        refine tp_ift (d_eq (r_n (x := (0 : Int32)) (l := 0) (h := 0) (by decide) (by decide)) (r_n (x := (0 : Int32)) (l := 0) (h := 0) (by decide) (by decide))) ?_
        refine tp_b (t_f_X3_bestLoad r12 r15 h_p_p_2_1 h_p_p_2_2_2_2_1 h_p_p_2_2_2_2_2_1 h_p_p_2_2_2_2_2_2_1 h_p_p_2_2_2_2_2_2_2_1) (fun o29 h16 => ?_)
        exact tp_s ⟨(r_w (l' := -1) (h' := 63) h16 (by decide) (by decide)), (r_w (l' := 0) (h' := 2) (r_n (x := (0 : Int32)) (l := 0) (h := 0) (by decide) (by decide)) (by decide) (by decide))⟩
theorem t_f_X10_loadWorth {k1 : Int32} {x_x : TX10_x} {p_p : TX6_p} {n_n : TX4_n} (h_p_p_1 : R32 (0) (8) p_p.1) (h_p_p_2_1 : R32 (0) (9) p_p.2.1) (h_p_p_2_2_2_2_1 : R32 (0) (4) p_p.2.2.2.2.1) (h_p_p_2_2_2_2_2_1 : R32 (0) (5) p_p.2.2.2.2.2.1) (h_p_p_2_2_2_2_2_2_1 : R32 (0) (6) p_p.2.2.2.2.2.2.1) (h_p_p_2_2_2_2_2_2_2_1 : R32 (0) (6) p_p.2.2.2.2.2.2.2.1) : TotP (f_X10_loadWorth k1 x_x p_p n_n) (fun (r : Int32 × TX10_x) => R32 (0) (2) r.2.1) := by
  unfold f_X10_loadWorth
  refine tp_e (f_X10_within.eq_1 _ _ _) ?_
  refine tp_nif (fun c1 => ?_) (fun c1 => ?_)
  · skip
    have r2 : R32 (-2147483648) (-1) k1 := r_lt1 (by decide) (r_top _) (r_n (x := (0 : Int32)) (l := 0) (h := 0) (by decide) (by decide)) c1
    refine tp_nl ?_
    refine tp_e (f_X10_numberTrouble.eq_1 _ _) ?_
    refine tp_nn ?_
    refine tp_e (f_X10_pierTrouble.eq_1 _) ?_
    refine tp_nif (fun c3 => ?_) (fun c3 => ?_)
    · skip
      have r4 : R32 (0) (0) p_p.1 := r_eq1 (l := 0) (h := 0) (by decide) (by decide) h_p_p_1 (r_n (x := (0 : Int32)) (l := 0) (h := 0) (by decide) (by decide)) c3
      refine tp_nl ?_
      refine tp_niff (d_ne2 (r_n (x := (1 : Int32)) (l := 1) (h := 1) (by decide) (by decide)) (r_n (x := (0 : Int32)) (l := 0) (h := 0) (by decide) (by decide)) (by decide)) ?_
      refine tp_e (f_X10_numberTrouble_J17.eq_1 _) ?_
      refine tp_nl ?_
      refine tp_e (f_X10_refused.eq_1 _ _) ?_
      refine tp_niff (d_ne2 (r_n (x := (1 : Int32)) (l := 1) (h := 1) (by decide) (by decide)) (r_n (x := (0 : Int32)) (l := 0) (h := 0) (by decide) (by decide)) (by decide)) ?_
      refine tp_nl ?_
      refine tp_iff (d_ne2 (r_n (x := (1 : Int32)) (l := 1) (h := 1) (by decide) (by decide)) (r_n (x := (0 : Int32)) (l := 0) (h := 0) (by decide) (by decide)) (by decide)) ?_
      exact tp_s (r_w (l' := 0) (h' := 2) (r_n (x := (1 : Int32)) (l := 1) (h := 1) (by decide) (by decide)) (by decide) (by decide))
    · skip
      have r5 : R32 (1) (8) p_p.1 := r_neL (by decide) h_p_p_1 (r_n (x := (0 : Int32)) (l := 0) (h := 0) (by decide) (by decide)) c3
      refine tp_nl ?_
      refine tp_nift (d_eq (r_n (x := (0 : Int32)) (l := 0) (h := 0) (by decide) (by decide)) (r_n (x := (0 : Int32)) (l := 0) (h := 0) (by decide) (by decide))) ?_
      refine tp_nift (d_eq (r_n (x := (0 : Int32)) (l := 0) (h := 0) (by decide) (by decide)) (r_n (x := (0 : Int32)) (l := 0) (h := 0) (by decide) (by decide))) ?_
      refine tp_nl ?_
      refine tp_e (f_X10_refused.eq_1 _ _) ?_
      refine tp_niff (d_ne2 (r_n (x := (2 : Int32)) (l := 2) (h := 2) (by decide) (by decide)) (r_n (x := (0 : Int32)) (l := 0) (h := 0) (by decide) (by decide)) (by decide)) ?_
      refine tp_nl ?_
      refine tp_iff (d_ne2 (r_n (x := (1 : Int32)) (l := 1) (h := 1) (by decide) (by decide)) (r_n (x := (0 : Int32)) (l := 0) (h := 0) (by decide) (by decide)) (by decide)) ?_
      exact tp_s (r_w (l' := 0) (h' := 2) (r_n (x := (2 : Int32)) (l := 2) (h := 2) (by decide) (by decide)) (by decide) (by decide))
  · skip
    have r6 : R32 (0) (2147483647) k1 := r_nlt1 (r_top _) (r_n (x := (0 : Int32)) (l := 0) (h := 0) (by decide) (by decide)) c1
    refine tp_nif (fun c7 => ?_) (fun c7 => ?_)
    · skip
      have r8 : R32 (7) (2147483647) k1 := r_lt2 (by decide) (r_n (x := (6 : Int32)) (l := 6) (h := 6) (by decide) (by decide)) r6 c7
      refine tp_nl ?_
      refine tp_e (f_X10_numberTrouble.eq_1 _ _) ?_
      refine tp_nn ?_
      refine tp_e (f_X10_pierTrouble.eq_1 _) ?_
      refine tp_nif (fun c9 => ?_) (fun c9 => ?_)
      · skip
        have r10 : R32 (0) (0) p_p.1 := r_eq1 (l := 0) (h := 0) (by decide) (by decide) h_p_p_1 (r_n (x := (0 : Int32)) (l := 0) (h := 0) (by decide) (by decide)) c9
        refine tp_nl ?_
        refine tp_niff (d_ne2 (r_n (x := (1 : Int32)) (l := 1) (h := 1) (by decide) (by decide)) (r_n (x := (0 : Int32)) (l := 0) (h := 0) (by decide) (by decide)) (by decide)) ?_
        refine tp_e (f_X10_numberTrouble_J17.eq_1 _) ?_
        refine tp_nl ?_
        refine tp_e (f_X10_refused.eq_1 _ _) ?_
        refine tp_niff (d_ne2 (r_n (x := (1 : Int32)) (l := 1) (h := 1) (by decide) (by decide)) (r_n (x := (0 : Int32)) (l := 0) (h := 0) (by decide) (by decide)) (by decide)) ?_
        refine tp_nl ?_
        refine tp_iff (d_ne2 (r_n (x := (1 : Int32)) (l := 1) (h := 1) (by decide) (by decide)) (r_n (x := (0 : Int32)) (l := 0) (h := 0) (by decide) (by decide)) (by decide)) ?_
        exact tp_s (r_w (l' := 0) (h' := 2) (r_n (x := (1 : Int32)) (l := 1) (h := 1) (by decide) (by decide)) (by decide) (by decide))
      · skip
        have r11 : R32 (1) (8) p_p.1 := r_neL (by decide) h_p_p_1 (r_n (x := (0 : Int32)) (l := 0) (h := 0) (by decide) (by decide)) c9
        refine tp_nl ?_
        refine tp_nift (d_eq (r_n (x := (0 : Int32)) (l := 0) (h := 0) (by decide) (by decide)) (r_n (x := (0 : Int32)) (l := 0) (h := 0) (by decide) (by decide))) ?_
        refine tp_nift (d_eq (r_n (x := (0 : Int32)) (l := 0) (h := 0) (by decide) (by decide)) (r_n (x := (0 : Int32)) (l := 0) (h := 0) (by decide) (by decide))) ?_
        refine tp_nl ?_
        refine tp_e (f_X10_refused.eq_1 _ _) ?_
        refine tp_niff (d_ne2 (r_n (x := (2 : Int32)) (l := 2) (h := 2) (by decide) (by decide)) (r_n (x := (0 : Int32)) (l := 0) (h := 0) (by decide) (by decide)) (by decide)) ?_
        refine tp_nl ?_
        refine tp_iff (d_ne2 (r_n (x := (1 : Int32)) (l := 1) (h := 1) (by decide) (by decide)) (r_n (x := (0 : Int32)) (l := 0) (h := 0) (by decide) (by decide)) (by decide)) ?_
        exact tp_s (r_w (l' := 0) (h' := 2) (r_n (x := (2 : Int32)) (l := 2) (h := 2) (by decide) (by decide)) (by decide) (by decide))
    · skip
      have r12 : R32 (0) (6) k1 := r_nlt2 (r_n (x := (6 : Int32)) (l := 6) (h := 6) (by decide) (by decide)) r6 c7
      refine tp_nl ?_
      refine tp_e (f_X10_numberTrouble.eq_1 _ _) ?_
      refine tp_nn ?_
      refine tp_e (f_X10_pierTrouble.eq_1 _) ?_
      refine tp_nif (fun c13 => ?_) (fun c13 => ?_)
      · skip
        have r14 : R32 (0) (0) p_p.1 := r_eq1 (l := 0) (h := 0) (by decide) (by decide) h_p_p_1 (r_n (x := (0 : Int32)) (l := 0) (h := 0) (by decide) (by decide)) c13
        refine tp_nl ?_
        refine tp_niff (d_ne2 (r_n (x := (1 : Int32)) (l := 1) (h := 1) (by decide) (by decide)) (r_n (x := (0 : Int32)) (l := 0) (h := 0) (by decide) (by decide)) (by decide)) ?_
        refine tp_e (f_X10_numberTrouble_J17.eq_1 _) ?_
        refine tp_nl ?_
        refine tp_e (f_X10_refused.eq_1 _ _) ?_
        refine tp_niff (d_ne2 (r_n (x := (1 : Int32)) (l := 1) (h := 1) (by decide) (by decide)) (r_n (x := (0 : Int32)) (l := 0) (h := 0) (by decide) (by decide)) (by decide)) ?_
        refine tp_nl ?_
        refine tp_iff (d_ne2 (r_n (x := (1 : Int32)) (l := 1) (h := 1) (by decide) (by decide)) (r_n (x := (0 : Int32)) (l := 0) (h := 0) (by decide) (by decide)) (by decide)) ?_
        exact tp_s (r_w (l' := 0) (h' := 2) (r_n (x := (1 : Int32)) (l := 1) (h := 1) (by decide) (by decide)) (by decide) (by decide))
      · skip
        have r15 : R32 (1) (8) p_p.1 := r_neL (by decide) h_p_p_1 (r_n (x := (0 : Int32)) (l := 0) (h := 0) (by decide) (by decide)) c13
        refine tp_nl ?_
        refine tp_nift (d_eq (r_n (x := (0 : Int32)) (l := 0) (h := 0) (by decide) (by decide)) (r_n (x := (0 : Int32)) (l := 0) (h := 0) (by decide) (by decide))) ?_
        refine tp_niff (d_ne2 (r_n (x := (1 : Int32)) (l := 1) (h := 1) (by decide) (by decide)) (r_n (x := (0 : Int32)) (l := 0) (h := 0) (by decide) (by decide)) (by decide)) ?_
        refine tp_e (f_X10_numberTrouble_J17.eq_1 _) ?_
        refine tp_nl ?_
        refine tp_e (f_X10_refused.eq_1 _ _) ?_
        refine tp_nift (d_eq (r_n (x := (0 : Int32)) (l := 0) (h := 0) (by decide) (by decide)) (r_n (x := (0 : Int32)) (l := 0) (h := 0) (by decide) (by decide))) ?_
        refine tp_nl ?_
        refine tp_ift (d_eq (r_n (x := (0 : Int32)) (l := 0) (h := 0) (by decide) (by decide)) (r_n (x := (0 : Int32)) (l := 0) (h := 0) (by decide) (by decide))) ?_
        refine tp_b (t_f_X3_bestLoad r12 r15 h_p_p_2_1 h_p_p_2_2_2_2_1 h_p_p_2_2_2_2_2_1 h_p_p_2_2_2_2_2_2_1 h_p_p_2_2_2_2_2_2_2_1) (fun o37 h16 => ?_)
        refine tp_b (t_f_X3_worthTogether h16 r15 h_p_p_2_1 h_p_p_2_2_2_2_1 h_p_p_2_2_2_2_2_1 h_p_p_2_2_2_2_2_2_1 h_p_p_2_2_2_2_2_2_2_1) (fun o47 h17 => ?_)
        exact tp_s (r_w (l' := 0) (h' := 2) (r_n (x := (0 : Int32)) (l := 0) (h := 0) (by decide) (by decide)) (by decide) (by decide))
theorem t_f_X10_bestDay_J93 {k50_ : Int32 → Int32 → Int32 → Option (Int32 × TX10_x)} {v50_l4 : Int32} {v93_l3 : Int32} {v93_l2 : Int32} {N50 : Nat} (hk50 : ∀ (v50_l4 : Int32) (v50_l3 : Int32) (v50_l2 : Int32), R32 (1) (21) v50_l4 → R32 (0) (20) v50_l2 → (21 : Int) - v50_l4.toInt < (N50 : Nat) → TotP (k50_ v50_l4 v50_l3 v50_l2) (fun (r : Int32 × TX10_x) => R32 (-1) (20) r.1 ∧ R32 (0) (1) r.2.1)) (hm50 : (21 : Int) - v50_l4.toInt < ((N50 + 1 : Nat) : Int)) (h_v50_l4 : R32 (1) (20) v50_l4) (h_v93_l2 : R32 (0) (20) v93_l2) : TotP (f_X10_bestDay_J93 k50_ v50_l4 v93_l3 v93_l2) (fun (r : Int32 × TX10_x) => R32 (-1) (20) r.1 ∧ R32 (0) (1) r.2.1) := by
  unfold f_X10_bestDay_J93
  exact hk50 _ _ _ (r_w (l' := 1) (h' := 21) (r_add (l := 2) (h := 21) h_v50_l4 (r_n (x := (1 : Int32)) (l := 1) (h := 1) (by decide) (by decide)) (by decide) (by decide) (by decide) (by decide)) (by decide) (by decide)) h_v93_l2 (ms_up (y := (1 : Int32)) h_v50_l4 (by decide) (by decide) (by decide) hm50)
theorem t_f_X10_bestDay_L50 {p_p : TX6_p} {n_n : TX4_n} {o21 : Int32} {o5 : (Int32 × TX10_x)} (h_p_p_1 : R32 (1) (8) p_p.1) (h_p_p_2_1 : R32 (0) (9) p_p.2.1) (h_p_p_2_2_2_2_1 : R32 (0) (4) p_p.2.2.2.2.1) (h_p_p_2_2_2_2_2_1 : R32 (0) (5) p_p.2.2.2.2.2.1) (h_p_p_2_2_2_2_2_2_1 : R32 (0) (6) p_p.2.2.2.2.2.2.1) (h_p_p_2_2_2_2_2_2_2_1 : R32 (0) (6) p_p.2.2.2.2.2.2.2.1) (h_o21 : R32 (0) (63) o21) (h_o5_1 : R32 (0) (0) o5.1) (h_o5_2_1 : R32 (0) (0) o5.2.1) : ∀ (n : Nat) (v50_l4 : Int32) (v50_l3 : Int32) (v50_l2 : Int32), R32 (1) (21) v50_l4 → R32 (0) (20) v50_l2 → (21 : Int) - v50_l4.toInt < (n : Int) → TotP (f_X10_bestDay_L50 p_p n_n o21 o5 n v50_l4 v50_l3 v50_l2) (fun (r : Int32 × TX10_x) => R32 (-1) (20) r.1 ∧ R32 (0) (1) r.2.1) := by
  intro n
  induction n with
  | zero =>
    intro v50_l4 v50_l3 v50_l2 h_v50_l4 h_v50_l2 hm
    exact (ms_0u h_v50_l4 hm).elim
  | succ n ih =>
    intro v50_l4 v50_l3 v50_l2 h_v50_l4 h_v50_l2 hm
    rw [f_X10_bestDay_L50]
    refine tp_if (fun c1 => ?_) (fun c1 => ?_)
    · skip
      have r2 : R32 (21) (21) v50_l4 := r_lt2 (by decide) (r_n (x := (20 : Int32)) (l := 20) (h := 20) (by decide) (by decide)) h_v50_l4 c1
      exact tp_s ⟨(r_w (l' := -1) (h' := 20) h_v50_l2 (by decide) (by decide)), (r_w (l' := 0) (h' := 1) h_o5_2_1 (by decide) (by decide))⟩
    · skip
      have r3 : R32 (1) (20) v50_l4 := r_nlt2 (r_n (x := (20 : Int32)) (l := 20) (h := 20) (by decide) (by decide)) h_v50_l4 c1
      refine tp_b (t_f_X3_worthTogether h_o21 h_p_p_1 h_p_p_2_1 h_p_p_2_2_2_2_1 h_p_p_2_2_2_2_2_1 h_p_p_2_2_2_2_2_2_1 h_p_p_2_2_2_2_2_2_2_1) (fun o76 h4 => ?_)
      refine tp_if (fun c5 => ?_) (fun c5 => ?_)
      · skip
        exact t_f_X10_bestDay_J93 ih hm r3 h_v50_l2
      · skip
        have r6 : R32 (-2147483647) (2147483647) o76 := r_nle1 (by decide) (r_top _) (r_top _) c5
        have r7 : R32 (-2147483648) (2147483646) v50_l3 := r_nle2 (by decide) (r_top _) (r_top _) c5
        exact t_f_X10_bestDay_J93 ih hm r3 (r_w (l' := 0) (h' := 20) r3 (by decide) (by decide))
theorem t_f_X10_bestDay {x_x : TX10_x} {p_p : TX6_p} {n_n : TX4_n} (h_p_p_1 : R32 (0) (8) p_p.1) (h_p_p_2_1 : R32 (0) (9) p_p.2.1) (h_p_p_2_2_2_2_1 : R32 (0) (4) p_p.2.2.2.2.1) (h_p_p_2_2_2_2_2_1 : R32 (0) (5) p_p.2.2.2.2.2.1) (h_p_p_2_2_2_2_2_2_1 : R32 (0) (6) p_p.2.2.2.2.2.2.1) (h_p_p_2_2_2_2_2_2_2_1 : R32 (0) (6) p_p.2.2.2.2.2.2.2.1) : TotP (f_X10_bestDay x_x p_p n_n) (fun (r : Int32 × TX10_x) => R32 (-1) (20) r.1 ∧ R32 (0) (1) r.2.1) := by
  unfold f_X10_bestDay
  refine tp_e (f_X10_pierTrouble.eq_1 _) ?_
  refine tp_nif (fun c1 => ?_) (fun c1 => ?_)
  · skip
    have r2 : R32 (0) (0) p_p.1 := r_eq1 (l := 0) (h := 0) (by decide) (by decide) h_p_p_1 (r_n (x := (0 : Int32)) (l := 0) (h := 0) (by decide) (by decide)) c1
    refine tp_nl ?_
    refine tp_e (f_X10_refused.eq_1 _ _) ?_
    refine tp_niff (d_ne2 (r_n (x := (1 : Int32)) (l := 1) (h := 1) (by decide) (by decide)) (r_n (x := (0 : Int32)) (l := 0) (h := 0) (by decide) (by decide)) (by decide)) ?_
    refine tp_nl ?_
    refine tp_iff (d_ne2 (r_n (x := (1 : Int32)) (l := 1) (h := 1) (by decide) (by decide)) (r_n (x := (0 : Int32)) (l := 0) (h := 0) (by decide) (by decide)) (by decide)) ?_
    exact tp_s ⟨(r_w (l' := -1) (h' := 20) (r_n (x := (-1 : Int32)) (l := -1) (h := -1) (by decide) (by decide)) (by decide) (by decide)), (r_w (l' := 0) (h' := 1) (r_n (x := (1 : Int32)) (l := 1) (h := 1) (by decide) (by decide)) (by decide) (by decide))⟩
  · skip
    have r3 : R32 (1) (8) p_p.1 := r_neL (by decide) h_p_p_1 (r_n (x := (0 : Int32)) (l := 0) (h := 0) (by decide) (by decide)) c1
    refine tp_nl ?_
    refine tp_e (f_X10_refused.eq_1 _ _) ?_
    refine tp_nift (d_eq (r_n (x := (0 : Int32)) (l := 0) (h := 0) (by decide) (by decide)) (r_n (x := (0 : Int32)) (l := 0) (h := 0) (by decide) (by decide))) ?_
    refine tp_nl ?_
    refine tp_ift (d_eq (r_n (x := (0 : Int32)) (l := 0) (h := 0) (by decide) (by decide)) (r_n (x := (0 : Int32)) (l := 0) (h := 0) (by decide) (by decide))) ?_
    refine tp_b (t_f_X3_unsold r3 h_p_p_2_1 h_p_p_2_2_2_2_1 h_p_p_2_2_2_2_2_1 h_p_p_2_2_2_2_2_2_1 h_p_p_2_2_2_2_2_2_2_1) (fun o21 h4 => ?_)
    refine tp_b (t_f_X3_worthTogether h4 r3 h_p_p_2_1 h_p_p_2_2_2_2_1 h_p_p_2_2_2_2_2_1 h_p_p_2_2_2_2_2_2_1 h_p_p_2_2_2_2_2_2_2_1) (fun o43 h5 => ?_)
    exact t_f_X10_bestDay_L50 r3 h_p_p_2_1 h_p_p_2_2_2_2_1 h_p_p_2_2_2_2_2_1 h_p_p_2_2_2_2_2_2_1 h_p_p_2_2_2_2_2_2_2_1 h4 (r_n (x := (0 : Int32)) (l := 0) (h := 0) (by decide) (by decide)) (r_n (x := (0 : Int32)) (l := 0) (h := 0) (by decide) (by decide)) FU _ _ _ (r_w (l' := 1) (h' := 21) (r_n (x := (1 : Int32)) (l := 1) (h := 1) (by decide) (by decide)) (by decide) (by decide)) (r_w (l' := 0) (h' := 20) (r_n (x := (0 : Int32)) (l := 0) (h := 0) (by decide) (by decide)) (by decide) (by decide)) (fu_up (r_w (l' := 1) (h' := 21) (r_n (x := (1 : Int32)) (l := 1) (h := 1) (by decide) (by decide)) (by decide) (by decide)) (by decide))
theorem t_f_X10_hooks {k1 : Int32} {k2 : Int32} {k3 : Int32} {k4 : Int32} {k5 : Int32} {x_x : TX10_x} {p_p : TX6_p} {n_n : TX4_n} (h_p_p_1 : R32 (0) (8) p_p.1) (h_p_p_2_1 : R32 (0) (9) p_p.2.1) (h_p_p_2_2_2_2_1 : R32 (0) (4) p_p.2.2.2.2.1) (h_p_p_2_2_2_2_2_1 : R32 (0) (5) p_p.2.2.2.2.2.1) (h_p_p_2_2_2_2_2_2_1 : R32 (0) (6) p_p.2.2.2.2.2.2.1) (h_p_p_2_2_2_2_2_2_2_1 : R32 (0) (6) p_p.2.2.2.2.2.2.2.1) : TotP (f_X10_hooks k1 k2 k3 k4 k5 x_x p_p n_n) (fun (r : Int32 × TX10_x) => R32 (0) (5) r.2.1) := by
  unfold f_X10_hooks
  refine tp_bu (f_X10_hooksTrouble.eq_1 _ _ _ _ _ _) ?_
  refine tp_bn ?_
  refine tp_e (f_X6_hasAnswer.eq_1 _ _) ?_
  refine tp_nn ?_
  refine tp_e (f_X10_within.eq_1 _ _ _) ?_
  refine tp_nif (fun c1 => ?_) (fun c1 => ?_)
  · skip
    have r2 : R32 (-2147483648) (-1) k1 := r_lt1 (by decide) (r_top _) (r_n (x := (0 : Int32)) (l := 0) (h := 0) (by decide) (by decide)) c1
    refine tp_nl ?_
    refine tp_nl ?_
    refine tp_bift (d_eq (r_n (x := (0 : Int32)) (l := 0) (h := 0) (by decide) (by decide)) (r_n (x := (0 : Int32)) (l := 0) (h := 0) (by decide) (by decide))) ?_
    refine tp_bs ?_
    refine tp_e (f_X10_refused.eq_1 _ _) ?_
    refine tp_niff (d_ne2 (r_n (x := (1 : Int32)) (l := 1) (h := 1) (by decide) (by decide)) (r_n (x := (0 : Int32)) (l := 0) (h := 0) (by decide) (by decide)) (by decide)) ?_
    refine tp_nl ?_
    refine tp_iff (d_ne2 (r_n (x := (1 : Int32)) (l := 1) (h := 1) (by decide) (by decide)) (r_n (x := (0 : Int32)) (l := 0) (h := 0) (by decide) (by decide)) (by decide)) ?_
    exact tp_s (r_w (l' := 0) (h' := 5) (r_n (x := (1 : Int32)) (l := 1) (h := 1) (by decide) (by decide)) (by decide) (by decide))
  · skip
    have r3 : R32 (0) (2147483647) k1 := r_nlt1 (r_top _) (r_n (x := (0 : Int32)) (l := 0) (h := 0) (by decide) (by decide)) c1
    refine tp_nif (fun c4 => ?_) (fun c4 => ?_)
    · skip
      refine tp_nl ?_
      refine tp_nl ?_
      refine tp_bift (d_eq (r_n (x := (0 : Int32)) (l := 0) (h := 0) (by decide) (by decide)) (r_n (x := (0 : Int32)) (l := 0) (h := 0) (by decide) (by decide))) ?_
      refine tp_bs ?_
      refine tp_e (f_X10_refused.eq_1 _ _) ?_
      refine tp_niff (d_ne2 (r_n (x := (1 : Int32)) (l := 1) (h := 1) (by decide) (by decide)) (r_n (x := (0 : Int32)) (l := 0) (h := 0) (by decide) (by decide)) (by decide)) ?_
      refine tp_nl ?_
      refine tp_iff (d_ne2 (r_n (x := (1 : Int32)) (l := 1) (h := 1) (by decide) (by decide)) (r_n (x := (0 : Int32)) (l := 0) (h := 0) (by decide) (by decide)) (by decide)) ?_
      exact tp_s (r_w (l' := 0) (h' := 5) (r_n (x := (1 : Int32)) (l := 1) (h := 1) (by decide) (by decide)) (by decide) (by decide))
    · skip
      have r5 : R32 (0) (5) (p_p.2.2.2.2.2.2.1 - (1 : Int32)) := r_nlt1 (r_sub (l := -1) (h := 5) h_p_p_2_2_2_2_2_2_1 (r_n (x := (1 : Int32)) (l := 1) (h := 1) (by decide) (by decide)) (by decide) (by decide) (by decide) (by decide)) r3 c4
      have r6 : R32 (0) (5) k1 := r_nlt2 (r_sub (l := -1) (h := 5) h_p_p_2_2_2_2_2_2_1 (r_n (x := (1 : Int32)) (l := 1) (h := 1) (by decide) (by decide)) (by decide) (by decide) (by decide) (by decide)) r3 c4
      refine tp_nl ?_
      refine tp_nl ?_
      refine tp_biff (d_ne2 (r_n (x := (1 : Int32)) (l := 1) (h := 1) (by decide) (by decide)) (r_n (x := (0 : Int32)) (l := 0) (h := 0) (by decide) (by decide)) (by decide)) ?_
      refine tp_bn ?_
      refine tp_e (f_X6_hasAsker.eq_1 _ _) ?_
      refine tp_nn ?_
      refine tp_e (f_X10_within.eq_1 _ _ _) ?_
      refine tp_nif (fun c7 => ?_) (fun c7 => ?_)
      · skip
        have r8 : R32 (-2147483648) (-1) k2 := r_lt1 (by decide) (r_top _) (r_n (x := (0 : Int32)) (l := 0) (h := 0) (by decide) (by decide)) c7
        refine tp_nl ?_
        refine tp_nl ?_
        refine tp_bift (d_eq (r_n (x := (0 : Int32)) (l := 0) (h := 0) (by decide) (by decide)) (r_n (x := (0 : Int32)) (l := 0) (h := 0) (by decide) (by decide))) ?_
        refine tp_bs ?_
        refine tp_e (f_X10_refused.eq_1 _ _) ?_
        refine tp_niff (d_ne2 (r_n (x := (1 : Int32)) (l := 1) (h := 1) (by decide) (by decide)) (r_n (x := (0 : Int32)) (l := 0) (h := 0) (by decide) (by decide)) (by decide)) ?_
        refine tp_nl ?_
        refine tp_iff (d_ne2 (r_n (x := (1 : Int32)) (l := 1) (h := 1) (by decide) (by decide)) (r_n (x := (0 : Int32)) (l := 0) (h := 0) (by decide) (by decide)) (by decide)) ?_
        exact tp_s (r_w (l' := 0) (h' := 5) (r_n (x := (1 : Int32)) (l := 1) (h := 1) (by decide) (by decide)) (by decide) (by decide))
      · skip
        have r9 : R32 (0) (2147483647) k2 := r_nlt1 (r_top _) (r_n (x := (0 : Int32)) (l := 0) (h := 0) (by decide) (by decide)) c7
        refine tp_nif (fun c10 => ?_) (fun c10 => ?_)
        · skip
          refine tp_nl ?_
          refine tp_nl ?_
          refine tp_bift (d_eq (r_n (x := (0 : Int32)) (l := 0) (h := 0) (by decide) (by decide)) (r_n (x := (0 : Int32)) (l := 0) (h := 0) (by decide) (by decide))) ?_
          refine tp_bs ?_
          refine tp_e (f_X10_refused.eq_1 _ _) ?_
          refine tp_niff (d_ne2 (r_n (x := (1 : Int32)) (l := 1) (h := 1) (by decide) (by decide)) (r_n (x := (0 : Int32)) (l := 0) (h := 0) (by decide) (by decide)) (by decide)) ?_
          refine tp_nl ?_
          refine tp_iff (d_ne2 (r_n (x := (1 : Int32)) (l := 1) (h := 1) (by decide) (by decide)) (r_n (x := (0 : Int32)) (l := 0) (h := 0) (by decide) (by decide)) (by decide)) ?_
          exact tp_s (r_w (l' := 0) (h' := 5) (r_n (x := (1 : Int32)) (l := 1) (h := 1) (by decide) (by decide)) (by decide) (by decide))
        · skip
          have r11 : R32 (0) (4) (p_p.2.2.2.2.2.1 - (1 : Int32)) := r_nlt1 (r_sub (l := -1) (h := 4) h_p_p_2_2_2_2_2_1 (r_n (x := (1 : Int32)) (l := 1) (h := 1) (by decide) (by decide)) (by decide) (by decide) (by decide) (by decide)) r9 c10
          have r12 : R32 (0) (4) k2 := r_nlt2 (r_sub (l := -1) (h := 4) h_p_p_2_2_2_2_2_1 (r_n (x := (1 : Int32)) (l := 1) (h := 1) (by decide) (by decide)) (by decide) (by decide) (by decide) (by decide)) r9 c10
          refine tp_nl ?_
          refine tp_nl ?_
          refine tp_biff (d_ne2 (r_n (x := (1 : Int32)) (l := 1) (h := 1) (by decide) (by decide)) (r_n (x := (0 : Int32)) (l := 0) (h := 0) (by decide) (by decide)) (by decide)) ?_
          refine tp_bn ?_
          refine tp_e (f_X6_hasAsker.eq_1 _ _) ?_
          refine tp_nn ?_
          refine tp_e (f_X10_within.eq_1 _ _ _) ?_
          refine tp_nif (fun c13 => ?_) (fun c13 => ?_)
          · skip
            have r14 : R32 (-2147483648) (-1) k3 := r_lt1 (by decide) (r_top _) (r_n (x := (0 : Int32)) (l := 0) (h := 0) (by decide) (by decide)) c13
            refine tp_nl ?_
            refine tp_nl ?_
            refine tp_bift (d_eq (r_n (x := (0 : Int32)) (l := 0) (h := 0) (by decide) (by decide)) (r_n (x := (0 : Int32)) (l := 0) (h := 0) (by decide) (by decide))) ?_
            refine tp_bs ?_
            refine tp_e (f_X10_refused.eq_1 _ _) ?_
            refine tp_niff (d_ne2 (r_n (x := (1 : Int32)) (l := 1) (h := 1) (by decide) (by decide)) (r_n (x := (0 : Int32)) (l := 0) (h := 0) (by decide) (by decide)) (by decide)) ?_
            refine tp_nl ?_
            refine tp_iff (d_ne2 (r_n (x := (1 : Int32)) (l := 1) (h := 1) (by decide) (by decide)) (r_n (x := (0 : Int32)) (l := 0) (h := 0) (by decide) (by decide)) (by decide)) ?_
            exact tp_s (r_w (l' := 0) (h' := 5) (r_n (x := (1 : Int32)) (l := 1) (h := 1) (by decide) (by decide)) (by decide) (by decide))
          · skip
            have r15 : R32 (0) (2147483647) k3 := r_nlt1 (r_top _) (r_n (x := (0 : Int32)) (l := 0) (h := 0) (by decide) (by decide)) c13
            refine tp_nif (fun c16 => ?_) (fun c16 => ?_)
            · skip
              have r17 : R32 (1) (2147483647) k3 := r_lt2 (by decide) r11 r15 c16
              refine tp_nl ?_
              refine tp_nl ?_
              refine tp_bift (d_eq (r_n (x := (0 : Int32)) (l := 0) (h := 0) (by decide) (by decide)) (r_n (x := (0 : Int32)) (l := 0) (h := 0) (by decide) (by decide))) ?_
              refine tp_bs ?_
              refine tp_e (f_X10_refused.eq_1 _ _) ?_
              refine tp_niff (d_ne2 (r_n (x := (1 : Int32)) (l := 1) (h := 1) (by decide) (by decide)) (r_n (x := (0 : Int32)) (l := 0) (h := 0) (by decide) (by decide)) (by decide)) ?_
              refine tp_nl ?_
              refine tp_iff (d_ne2 (r_n (x := (1 : Int32)) (l := 1) (h := 1) (by decide) (by decide)) (r_n (x := (0 : Int32)) (l := 0) (h := 0) (by decide) (by decide)) (by decide)) ?_
              exact tp_s (r_w (l' := 0) (h' := 5) (r_n (x := (1 : Int32)) (l := 1) (h := 1) (by decide) (by decide)) (by decide) (by decide))
            · skip
              have r18 : R32 (0) (4) k3 := r_nlt2 r11 r15 c16
              refine tp_nl ?_
              refine tp_nl ?_
              refine tp_biff (d_ne2 (r_n (x := (1 : Int32)) (l := 1) (h := 1) (by decide) (by decide)) (r_n (x := (0 : Int32)) (l := 0) (h := 0) (by decide) (by decide)) (by decide)) ?_
              refine tp_bif (fun c19 => ?_) (fun c19 => ?_)
              · skip
                refine tp_bs ?_
                refine tp_e (f_X10_refused.eq_1 _ _) ?_
                refine tp_niff (d_ne2 (r_n (x := (1 : Int32)) (l := 1) (h := 1) (by decide) (by decide)) (r_n (x := (0 : Int32)) (l := 0) (h := 0) (by decide) (by decide)) (by decide)) ?_
                refine tp_nl ?_
                refine tp_iff (d_ne2 (r_n (x := (1 : Int32)) (l := 1) (h := 1) (by decide) (by decide)) (r_n (x := (0 : Int32)) (l := 0) (h := 0) (by decide) (by decide)) (by decide)) ?_
                exact tp_s (r_w (l' := 0) (h' := 5) (r_n (x := (1 : Int32)) (l := 1) (h := 1) (by decide) (by decide)) (by decide) (by decide))
              · skip
                refine tp_bn ?_
                refine tp_e (f_X10_within.eq_1 _ _ _) ?_
                refine tp_nif (fun c20 => ?_) (fun c20 => ?_)
                · skip
                  have r21 : R32 (-2147483648) (-1) k4 := r_lt1 (by decide) (r_top _) (r_n (x := (0 : Int32)) (l := 0) (h := 0) (by decide) (by decide)) c20
                  refine tp_nl ?_
                  refine tp_bift (d_eq (r_n (x := (0 : Int32)) (l := 0) (h := 0) (by decide) (by decide)) (r_n (x := (0 : Int32)) (l := 0) (h := 0) (by decide) (by decide))) ?_
                  refine tp_bs ?_
                  refine tp_e (f_X10_refused.eq_1 _ _) ?_
                  refine tp_niff (d_ne2 (r_n (x := (2 : Int32)) (l := 2) (h := 2) (by decide) (by decide)) (r_n (x := (0 : Int32)) (l := 0) (h := 0) (by decide) (by decide)) (by decide)) ?_
                  refine tp_nl ?_
                  refine tp_iff (d_ne2 (r_n (x := (1 : Int32)) (l := 1) (h := 1) (by decide) (by decide)) (r_n (x := (0 : Int32)) (l := 0) (h := 0) (by decide) (by decide)) (by decide)) ?_
                  exact tp_s (r_w (l' := 0) (h' := 5) (r_n (x := (2 : Int32)) (l := 2) (h := 2) (by decide) (by decide)) (by decide) (by decide))
                · skip
                  have r22 : R32 (0) (2147483647) k4 := r_nlt1 (r_top _) (r_n (x := (0 : Int32)) (l := 0) (h := 0) (by decide) (by decide)) c20
                  refine tp_nif (fun c23 => ?_) (fun c23 => ?_)
                  · skip
                    have r24 : R32 (1000) (2147483647) k4 := r_lt2 (by decide) (r_n (x := (999 : Int32)) (l := 999) (h := 999) (by decide) (by decide)) r22 c23
                    refine tp_nl ?_
                    refine tp_bift (d_eq (r_n (x := (0 : Int32)) (l := 0) (h := 0) (by decide) (by decide)) (r_n (x := (0 : Int32)) (l := 0) (h := 0) (by decide) (by decide))) ?_
                    refine tp_bs ?_
                    refine tp_e (f_X10_refused.eq_1 _ _) ?_
                    refine tp_niff (d_ne2 (r_n (x := (2 : Int32)) (l := 2) (h := 2) (by decide) (by decide)) (r_n (x := (0 : Int32)) (l := 0) (h := 0) (by decide) (by decide)) (by decide)) ?_
                    refine tp_nl ?_
                    refine tp_iff (d_ne2 (r_n (x := (1 : Int32)) (l := 1) (h := 1) (by decide) (by decide)) (r_n (x := (0 : Int32)) (l := 0) (h := 0) (by decide) (by decide)) (by decide)) ?_
                    exact tp_s (r_w (l' := 0) (h' := 5) (r_n (x := (2 : Int32)) (l := 2) (h := 2) (by decide) (by decide)) (by decide) (by decide))
                  · skip
                    have r25 : R32 (0) (999) k4 := r_nlt2 (r_n (x := (999 : Int32)) (l := 999) (h := 999) (by decide) (by decide)) r22 c23
                    refine tp_nl ?_
                    refine tp_biff (d_ne2 (r_n (x := (1 : Int32)) (l := 1) (h := 1) (by decide) (by decide)) (r_n (x := (0 : Int32)) (l := 0) (h := 0) (by decide) (by decide)) (by decide)) ?_
                    refine tp_bg r12 (by decide) (by decide) ?_
                    refine tp_bif (fun c26 => ?_) (fun c26 => ?_)
                    · skip
                      have r27 : R32 (-1) (-1) (n_n.2.2.2.2.2.2 (k2).toNatClampNeg) := r_eq1 (l := -1) (h := -1) (by decide) (by decide) (r_top _) (r_n (x := (-1 : Int32)) (l := -1) (h := -1) (by decide) (by decide)) c26
                      refine tp_bu (f_X10_hooksTrouble_J80.eq_1) ?_
                      refine tp_bs ?_
                      refine tp_e (f_X10_refused.eq_1 _ _) ?_
                      refine tp_niff (d_ne2 (r_n (x := (5 : Int32)) (l := 5) (h := 5) (by decide) (by decide)) (r_n (x := (0 : Int32)) (l := 0) (h := 0) (by decide) (by decide)) (by decide)) ?_
                      refine tp_nl ?_
                      refine tp_iff (d_ne2 (r_n (x := (1 : Int32)) (l := 1) (h := 1) (by decide) (by decide)) (r_n (x := (0 : Int32)) (l := 0) (h := 0) (by decide) (by decide)) (by decide)) ?_
                      exact tp_s (r_w (l' := 0) (h' := 5) (r_n (x := (5 : Int32)) (l := 5) (h := 5) (by decide) (by decide)) (by decide) (by decide))
                    · skip
                      refine tp_bg r18 (by decide) (by decide) ?_
                      refine tp_bif (fun c28 => ?_) (fun c28 => ?_)
                      · skip
                        have r29 : R32 (-1) (-1) (n_n.2.2.2.2.2.2 (k3).toNatClampNeg) := r_eq1 (l := -1) (h := -1) (by decide) (by decide) (r_top _) (r_n (x := (-1 : Int32)) (l := -1) (h := -1) (by decide) (by decide)) c28
                        refine tp_bu (f_X10_hooksTrouble_J80.eq_1) ?_
                        refine tp_bs ?_
                        refine tp_e (f_X10_refused.eq_1 _ _) ?_
                        refine tp_niff (d_ne2 (r_n (x := (5 : Int32)) (l := 5) (h := 5) (by decide) (by decide)) (r_n (x := (0 : Int32)) (l := 0) (h := 0) (by decide) (by decide)) (by decide)) ?_
                        refine tp_nl ?_
                        refine tp_iff (d_ne2 (r_n (x := (1 : Int32)) (l := 1) (h := 1) (by decide) (by decide)) (r_n (x := (0 : Int32)) (l := 0) (h := 0) (by decide) (by decide)) (by decide)) ?_
                        exact tp_s (r_w (l' := 0) (h' := 5) (r_n (x := (5 : Int32)) (l := 5) (h := 5) (by decide) (by decide)) (by decide) (by decide))
                      · skip
                        refine tp_bs ?_
                        refine tp_e (f_X10_refused.eq_1 _ _) ?_
                        refine tp_nift (d_eq (r_n (x := (0 : Int32)) (l := 0) (h := 0) (by decide) (by decide)) (r_n (x := (0 : Int32)) (l := 0) (h := 0) (by decide) (by decide))) ?_
                        refine tp_nl ?_
                        refine tp_ift (d_eq (r_n (x := (0 : Int32)) (l := 0) (h := 0) (by decide) (by decide)) (r_n (x := (0 : Int32)) (l := 0) (h := 0) (by decide) (by decide))) ?_
                        refine tp_g r12 (by decide) (by decide) ?_
                        refine tp_b (t_f_X6_wishFor r6 h_p_p_1 h_p_p_2_1 h_p_p_2_2_2_2_1 h_p_p_2_2_2_2_2_1 h_p_p_2_2_2_2_2_2_1 h_p_p_2_2_2_2_2_2_2_1) (fun o32 h30 => ?_)
                        refine tp_g r18 (by decide) (by decide) ?_
                        refine tp_b (t_f_X6_wishFor r6 h_p_p_1 h_p_p_2_1 h_p_p_2_2_2_2_1 h_p_p_2_2_2_2_2_1 h_p_p_2_2_2_2_2_2_1 h_p_p_2_2_2_2_2_2_2_1) (fun o51 h31 => ?_)
                        refine tp_if (fun c32 => ?_) (fun c32 => ?_)
                        · skip
                          have r33 : R32 (0) (0) (o32 + o51) := r_eq1 (l := 0) (h := 0) (by decide) (by decide) (r_top _) (r_n (x := (0 : Int32)) (l := 0) (h := 0) (by decide) (by decide)) c32
                          exact tp_s (r_w (l' := 0) (h' := 5) (r_n (x := (0 : Int32)) (l := 0) (h := 0) (by decide) (by decide)) (by decide) (by decide))
                        · skip
                          refine tp_zc c32 ?_
                          refine tp_zc c32 ?_
                          refine tp_n0 (fun z97 => ?_)
                          refine tp_if (fun c34 => ?_) (fun c34 => ?_)
                          · skip
                            have r35 : R32 (0) (0) k5 := r_eq1 (l := 0) (h := 0) (by decide) (by decide) (r_top _) (r_n (x := (0 : Int32)) (l := 0) (h := 0) (by decide) (by decide)) c34
                            refine tp_if (fun c36 => ?_) (fun c36 => ?_)
                            · skip
                              have r37 : R32 (-2147483648) (2147483646) o32 := r_lt1 (by decide) (r_top _) (r_top _) c36
                              have r38 : R32 (-2147483647) (2147483647) o51 := r_lt2 (by decide) (r_top _) (r_top _) c36
                              exact tp_s (r_w (l' := 0) (h' := 5) (r_n (x := (0 : Int32)) (l := 0) (h := 0) (by decide) (by decide)) (by decide) (by decide))
                            · skip
                              exact tp_s (r_w (l' := 0) (h' := 5) (r_n (x := (0 : Int32)) (l := 0) (h := 0) (by decide) (by decide)) (by decide) (by decide))
                          · skip
                            refine tp_if (fun c39 => ?_) (fun c39 => ?_)
                            · skip
                              have r40 : R32 (-2147483648) (2147483646) o32 := r_lt1 (by decide) (r_top _) (r_top _) c39
                              have r41 : R32 (-2147483647) (2147483647) o51 := r_lt2 (by decide) (r_top _) (r_top _) c39
                              exact tp_s (r_w (l' := 0) (h' := 5) (r_n (x := (0 : Int32)) (l := 0) (h := 0) (by decide) (by decide)) (by decide) (by decide))
                            · skip
                              exact tp_s (r_w (l' := 0) (h' := 5) (r_n (x := (0 : Int32)) (l := 0) (h := 0) (by decide) (by decide)) (by decide) (by decide))
theorem t_f_X9_gain {k0 : Int32} {k1 : Int32} {k2 : Int32} (h_k0 : R32 (0) (99) k0) (h_k1 : R32 (0) (6) k1) (h_k2 : R32 (0) (6) k2) : TotP (f_X9_gain k0 k1 k2) (fun (r : Int32) => True) := by
  unfold f_X9_gain
  refine tp_if (fun c1 => ?_) (fun c1 => ?_)
  · skip
    have r2 : R32 (0) (0) (k1 + k2) := r_eq1 (l := 0) (h := 0) (by decide) (by decide) (r_add (l := 0) (h := 12) h_k1 h_k2 (by decide) (by decide) (by decide) (by decide)) (r_n (x := (0 : Int32)) (l := 0) (h := 0) (by decide) (by decide)) c1
    exact tp_s trivial
  · skip
    have r3 : R32 (1) (12) (k1 + k2) := r_neL (by decide) (r_add (l := 0) (h := 12) h_k1 h_k2 (by decide) (by decide) (by decide) (by decide)) (r_n (x := (0 : Int32)) (l := 0) (h := 0) (by decide) (by decide)) c1
    refine tp_zc c1 ?_
    exact tp_s trivial
theorem t_f_X10_lines {k1 : Int32} {k2 : Int32} {k3 : Int32} {k4 : Int32} {x_x : TX10_x} {p_p : TX6_p} (h_p_p_1 : R32 (0) (8) p_p.1) (h_p_p_2_1 : R32 (0) (9) p_p.2.1) (h_p_p_2_2_2_2_1 : R32 (0) (4) p_p.2.2.2.2.1) (h_p_p_2_2_2_2_2_1 : R32 (0) (5) p_p.2.2.2.2.2.1) (h_p_p_2_2_2_2_2_2_1 : R32 (0) (6) p_p.2.2.2.2.2.2.1) (h_p_p_2_2_2_2_2_2_2_1 : R32 (0) (6) p_p.2.2.2.2.2.2.2.1) : TotP (f_X10_lines k1 k2 k3 k4 x_x p_p) (fun (r : Int32 × TX10_x) => R32 (0) (2) r.2.1) := by
  unfold f_X10_lines
  refine tp_e (f_X10_within.eq_1 _ _ _) ?_
  refine tp_nif (fun c1 => ?_) (fun c1 => ?_)
  · skip
    have r2 : R32 (-2147483648) (-1) k1 := r_lt1 (by decide) (r_top _) (r_n (x := (0 : Int32)) (l := 0) (h := 0) (by decide) (by decide)) c1
    refine tp_nl ?_
    refine tp_ift (d_eq (r_n (x := (0 : Int32)) (l := 0) (h := 0) (by decide) (by decide)) (r_n (x := (0 : Int32)) (l := 0) (h := 0) (by decide) (by decide))) ?_
    refine tp_u (f_X10_lines_J34.eq_1 _ _ _ _ _ _) ?_
    refine tp_u (f_X10_lines_J35.eq_1 _ _ _ _ _ _ _) ?_
    refine tp_e (f_X10_numberTrouble.eq_1 _ _) ?_
    refine tp_nn ?_
    refine tp_e (f_X10_pierTrouble.eq_1 _) ?_
    refine tp_nif (fun c3 => ?_) (fun c3 => ?_)
    · skip
      have r4 : R32 (0) (0) p_p.1 := r_eq1 (l := 0) (h := 0) (by decide) (by decide) h_p_p_1 (r_n (x := (0 : Int32)) (l := 0) (h := 0) (by decide) (by decide)) c3
      refine tp_nl ?_
      refine tp_niff (d_ne2 (r_n (x := (1 : Int32)) (l := 1) (h := 1) (by decide) (by decide)) (r_n (x := (0 : Int32)) (l := 0) (h := 0) (by decide) (by decide)) (by decide)) ?_
      refine tp_e (f_X10_numberTrouble_J17.eq_1 _) ?_
      refine tp_nl ?_
      refine tp_e (f_X10_refused.eq_1 _ _) ?_
      refine tp_niff (d_ne2 (r_n (x := (1 : Int32)) (l := 1) (h := 1) (by decide) (by decide)) (r_n (x := (0 : Int32)) (l := 0) (h := 0) (by decide) (by decide)) (by decide)) ?_
      refine tp_nl ?_
      refine tp_iff (d_ne2 (r_n (x := (1 : Int32)) (l := 1) (h := 1) (by decide) (by decide)) (r_n (x := (0 : Int32)) (l := 0) (h := 0) (by decide) (by decide)) (by decide)) ?_
      exact tp_s (r_w (l' := 0) (h' := 2) (r_n (x := (1 : Int32)) (l := 1) (h := 1) (by decide) (by decide)) (by decide) (by decide))
    · skip
      have r5 : R32 (1) (8) p_p.1 := r_neL (by decide) h_p_p_1 (r_n (x := (0 : Int32)) (l := 0) (h := 0) (by decide) (by decide)) c3
      refine tp_nl ?_
      refine tp_nift (d_eq (r_n (x := (0 : Int32)) (l := 0) (h := 0) (by decide) (by decide)) (r_n (x := (0 : Int32)) (l := 0) (h := 0) (by decide) (by decide))) ?_
      refine tp_nift (d_eq (r_n (x := (0 : Int32)) (l := 0) (h := 0) (by decide) (by decide)) (r_n (x := (0 : Int32)) (l := 0) (h := 0) (by decide) (by decide))) ?_
      refine tp_nl ?_
      refine tp_e (f_X10_refused.eq_1 _ _) ?_
      refine tp_niff (d_ne2 (r_n (x := (2 : Int32)) (l := 2) (h := 2) (by decide) (by decide)) (r_n (x := (0 : Int32)) (l := 0) (h := 0) (by decide) (by decide)) (by decide)) ?_
      refine tp_nl ?_
      refine tp_iff (d_ne2 (r_n (x := (1 : Int32)) (l := 1) (h := 1) (by decide) (by decide)) (r_n (x := (0 : Int32)) (l := 0) (h := 0) (by decide) (by decide)) (by decide)) ?_
      exact tp_s (r_w (l' := 0) (h' := 2) (r_n (x := (2 : Int32)) (l := 2) (h := 2) (by decide) (by decide)) (by decide) (by decide))
  · skip
    have r6 : R32 (0) (2147483647) k1 := r_nlt1 (r_top _) (r_n (x := (0 : Int32)) (l := 0) (h := 0) (by decide) (by decide)) c1
    refine tp_nif (fun c7 => ?_) (fun c7 => ?_)
    · skip
      have r8 : R32 (100) (2147483647) k1 := r_lt2 (by decide) (r_n (x := (99 : Int32)) (l := 99) (h := 99) (by decide) (by decide)) r6 c7
      refine tp_nl ?_
      refine tp_ift (d_eq (r_n (x := (0 : Int32)) (l := 0) (h := 0) (by decide) (by decide)) (r_n (x := (0 : Int32)) (l := 0) (h := 0) (by decide) (by decide))) ?_
      refine tp_u (f_X10_lines_J34.eq_1 _ _ _ _ _ _) ?_
      refine tp_u (f_X10_lines_J35.eq_1 _ _ _ _ _ _ _) ?_
      refine tp_e (f_X10_numberTrouble.eq_1 _ _) ?_
      refine tp_nn ?_
      refine tp_e (f_X10_pierTrouble.eq_1 _) ?_
      refine tp_nif (fun c9 => ?_) (fun c9 => ?_)
      · skip
        have r10 : R32 (0) (0) p_p.1 := r_eq1 (l := 0) (h := 0) (by decide) (by decide) h_p_p_1 (r_n (x := (0 : Int32)) (l := 0) (h := 0) (by decide) (by decide)) c9
        refine tp_nl ?_
        refine tp_niff (d_ne2 (r_n (x := (1 : Int32)) (l := 1) (h := 1) (by decide) (by decide)) (r_n (x := (0 : Int32)) (l := 0) (h := 0) (by decide) (by decide)) (by decide)) ?_
        refine tp_e (f_X10_numberTrouble_J17.eq_1 _) ?_
        refine tp_nl ?_
        refine tp_e (f_X10_refused.eq_1 _ _) ?_
        refine tp_niff (d_ne2 (r_n (x := (1 : Int32)) (l := 1) (h := 1) (by decide) (by decide)) (r_n (x := (0 : Int32)) (l := 0) (h := 0) (by decide) (by decide)) (by decide)) ?_
        refine tp_nl ?_
        refine tp_iff (d_ne2 (r_n (x := (1 : Int32)) (l := 1) (h := 1) (by decide) (by decide)) (r_n (x := (0 : Int32)) (l := 0) (h := 0) (by decide) (by decide)) (by decide)) ?_
        exact tp_s (r_w (l' := 0) (h' := 2) (r_n (x := (1 : Int32)) (l := 1) (h := 1) (by decide) (by decide)) (by decide) (by decide))
      · skip
        have r11 : R32 (1) (8) p_p.1 := r_neL (by decide) h_p_p_1 (r_n (x := (0 : Int32)) (l := 0) (h := 0) (by decide) (by decide)) c9
        refine tp_nl ?_
        refine tp_nift (d_eq (r_n (x := (0 : Int32)) (l := 0) (h := 0) (by decide) (by decide)) (r_n (x := (0 : Int32)) (l := 0) (h := 0) (by decide) (by decide))) ?_
        refine tp_nift (d_eq (r_n (x := (0 : Int32)) (l := 0) (h := 0) (by decide) (by decide)) (r_n (x := (0 : Int32)) (l := 0) (h := 0) (by decide) (by decide))) ?_
        refine tp_nl ?_
        refine tp_e (f_X10_refused.eq_1 _ _) ?_
        refine tp_niff (d_ne2 (r_n (x := (2 : Int32)) (l := 2) (h := 2) (by decide) (by decide)) (r_n (x := (0 : Int32)) (l := 0) (h := 0) (by decide) (by decide)) (by decide)) ?_
        refine tp_nl ?_
        refine tp_iff (d_ne2 (r_n (x := (1 : Int32)) (l := 1) (h := 1) (by decide) (by decide)) (r_n (x := (0 : Int32)) (l := 0) (h := 0) (by decide) (by decide)) (by decide)) ?_
        exact tp_s (r_w (l' := 0) (h' := 2) (r_n (x := (2 : Int32)) (l := 2) (h := 2) (by decide) (by decide)) (by decide) (by decide))
    · skip
      have r12 : R32 (0) (99) k1 := r_nlt2 (r_n (x := (99 : Int32)) (l := 99) (h := 99) (by decide) (by decide)) r6 c7
      refine tp_nl ?_
      refine tp_iff (d_ne2 (r_n (x := (1 : Int32)) (l := 1) (h := 1) (by decide) (by decide)) (r_n (x := (0 : Int32)) (l := 0) (h := 0) (by decide) (by decide)) (by decide)) ?_
      refine tp_e (f_X10_within.eq_1 _ _ _) ?_
      refine tp_nif (fun c13 => ?_) (fun c13 => ?_)
      · skip
        have r14 : R32 (-2147483648) (-1) k2 := r_lt1 (by decide) (r_top _) (r_n (x := (0 : Int32)) (l := 0) (h := 0) (by decide) (by decide)) c13
        refine tp_nl ?_
        refine tp_ift (d_eq (r_n (x := (0 : Int32)) (l := 0) (h := 0) (by decide) (by decide)) (r_n (x := (0 : Int32)) (l := 0) (h := 0) (by decide) (by decide))) ?_
        refine tp_u (f_X10_lines_J34.eq_1 _ _ _ _ _ _) ?_
        refine tp_u (f_X10_lines_J35.eq_1 _ _ _ _ _ _ _) ?_
        refine tp_e (f_X10_numberTrouble.eq_1 _ _) ?_
        refine tp_nn ?_
        refine tp_e (f_X10_pierTrouble.eq_1 _) ?_
        refine tp_nif (fun c15 => ?_) (fun c15 => ?_)
        · skip
          have r16 : R32 (0) (0) p_p.1 := r_eq1 (l := 0) (h := 0) (by decide) (by decide) h_p_p_1 (r_n (x := (0 : Int32)) (l := 0) (h := 0) (by decide) (by decide)) c15
          refine tp_nl ?_
          refine tp_niff (d_ne2 (r_n (x := (1 : Int32)) (l := 1) (h := 1) (by decide) (by decide)) (r_n (x := (0 : Int32)) (l := 0) (h := 0) (by decide) (by decide)) (by decide)) ?_
          refine tp_e (f_X10_numberTrouble_J17.eq_1 _) ?_
          refine tp_nl ?_
          refine tp_e (f_X10_refused.eq_1 _ _) ?_
          refine tp_niff (d_ne2 (r_n (x := (1 : Int32)) (l := 1) (h := 1) (by decide) (by decide)) (r_n (x := (0 : Int32)) (l := 0) (h := 0) (by decide) (by decide)) (by decide)) ?_
          refine tp_nl ?_
          refine tp_iff (d_ne2 (r_n (x := (1 : Int32)) (l := 1) (h := 1) (by decide) (by decide)) (r_n (x := (0 : Int32)) (l := 0) (h := 0) (by decide) (by decide)) (by decide)) ?_
          exact tp_s (r_w (l' := 0) (h' := 2) (r_n (x := (1 : Int32)) (l := 1) (h := 1) (by decide) (by decide)) (by decide) (by decide))
        · skip
          have r17 : R32 (1) (8) p_p.1 := r_neL (by decide) h_p_p_1 (r_n (x := (0 : Int32)) (l := 0) (h := 0) (by decide) (by decide)) c15
          refine tp_nl ?_
          refine tp_nift (d_eq (r_n (x := (0 : Int32)) (l := 0) (h := 0) (by decide) (by decide)) (r_n (x := (0 : Int32)) (l := 0) (h := 0) (by decide) (by decide))) ?_
          refine tp_nift (d_eq (r_n (x := (0 : Int32)) (l := 0) (h := 0) (by decide) (by decide)) (r_n (x := (0 : Int32)) (l := 0) (h := 0) (by decide) (by decide))) ?_
          refine tp_nl ?_
          refine tp_e (f_X10_refused.eq_1 _ _) ?_
          refine tp_niff (d_ne2 (r_n (x := (2 : Int32)) (l := 2) (h := 2) (by decide) (by decide)) (r_n (x := (0 : Int32)) (l := 0) (h := 0) (by decide) (by decide)) (by decide)) ?_
          refine tp_nl ?_
          refine tp_iff (d_ne2 (r_n (x := (1 : Int32)) (l := 1) (h := 1) (by decide) (by decide)) (r_n (x := (0 : Int32)) (l := 0) (h := 0) (by decide) (by decide)) (by decide)) ?_
          exact tp_s (r_w (l' := 0) (h' := 2) (r_n (x := (2 : Int32)) (l := 2) (h := 2) (by decide) (by decide)) (by decide) (by decide))
      · skip
        have r18 : R32 (0) (2147483647) k2 := r_nlt1 (r_top _) (r_n (x := (0 : Int32)) (l := 0) (h := 0) (by decide) (by decide)) c13
        refine tp_nif (fun c19 => ?_) (fun c19 => ?_)
        · skip
          have r20 : R32 (7) (2147483647) k2 := r_lt2 (by decide) (r_n (x := (6 : Int32)) (l := 6) (h := 6) (by decide) (by decide)) r18 c19
          refine tp_nl ?_
          refine tp_ift (d_eq (r_n (x := (0 : Int32)) (l := 0) (h := 0) (by decide) (by decide)) (r_n (x := (0 : Int32)) (l := 0) (h := 0) (by decide) (by decide))) ?_
          refine tp_u (f_X10_lines_J34.eq_1 _ _ _ _ _ _) ?_
          refine tp_u (f_X10_lines_J35.eq_1 _ _ _ _ _ _ _) ?_
          refine tp_e (f_X10_numberTrouble.eq_1 _ _) ?_
          refine tp_nn ?_
          refine tp_e (f_X10_pierTrouble.eq_1 _) ?_
          refine tp_nif (fun c21 => ?_) (fun c21 => ?_)
          · skip
            have r22 : R32 (0) (0) p_p.1 := r_eq1 (l := 0) (h := 0) (by decide) (by decide) h_p_p_1 (r_n (x := (0 : Int32)) (l := 0) (h := 0) (by decide) (by decide)) c21
            refine tp_nl ?_
            refine tp_niff (d_ne2 (r_n (x := (1 : Int32)) (l := 1) (h := 1) (by decide) (by decide)) (r_n (x := (0 : Int32)) (l := 0) (h := 0) (by decide) (by decide)) (by decide)) ?_
            refine tp_e (f_X10_numberTrouble_J17.eq_1 _) ?_
            refine tp_nl ?_
            refine tp_e (f_X10_refused.eq_1 _ _) ?_
            refine tp_niff (d_ne2 (r_n (x := (1 : Int32)) (l := 1) (h := 1) (by decide) (by decide)) (r_n (x := (0 : Int32)) (l := 0) (h := 0) (by decide) (by decide)) (by decide)) ?_
            refine tp_nl ?_
            refine tp_iff (d_ne2 (r_n (x := (1 : Int32)) (l := 1) (h := 1) (by decide) (by decide)) (r_n (x := (0 : Int32)) (l := 0) (h := 0) (by decide) (by decide)) (by decide)) ?_
            exact tp_s (r_w (l' := 0) (h' := 2) (r_n (x := (1 : Int32)) (l := 1) (h := 1) (by decide) (by decide)) (by decide) (by decide))
          · skip
            have r23 : R32 (1) (8) p_p.1 := r_neL (by decide) h_p_p_1 (r_n (x := (0 : Int32)) (l := 0) (h := 0) (by decide) (by decide)) c21
            refine tp_nl ?_
            refine tp_nift (d_eq (r_n (x := (0 : Int32)) (l := 0) (h := 0) (by decide) (by decide)) (r_n (x := (0 : Int32)) (l := 0) (h := 0) (by decide) (by decide))) ?_
            refine tp_nift (d_eq (r_n (x := (0 : Int32)) (l := 0) (h := 0) (by decide) (by decide)) (r_n (x := (0 : Int32)) (l := 0) (h := 0) (by decide) (by decide))) ?_
            refine tp_nl ?_
            refine tp_e (f_X10_refused.eq_1 _ _) ?_
            refine tp_niff (d_ne2 (r_n (x := (2 : Int32)) (l := 2) (h := 2) (by decide) (by decide)) (r_n (x := (0 : Int32)) (l := 0) (h := 0) (by decide) (by decide)) (by decide)) ?_
            refine tp_nl ?_
            refine tp_iff (d_ne2 (r_n (x := (1 : Int32)) (l := 1) (h := 1) (by decide) (by decide)) (r_n (x := (0 : Int32)) (l := 0) (h := 0) (by decide) (by decide)) (by decide)) ?_
            exact tp_s (r_w (l' := 0) (h' := 2) (r_n (x := (2 : Int32)) (l := 2) (h := 2) (by decide) (by decide)) (by decide) (by decide))
        · skip
          have r24 : R32 (0) (6) k2 := r_nlt2 (r_n (x := (6 : Int32)) (l := 6) (h := 6) (by decide) (by decide)) r18 c19
          refine tp_nl ?_
          refine tp_iff (d_ne2 (r_n (x := (1 : Int32)) (l := 1) (h := 1) (by decide) (by decide)) (r_n (x := (0 : Int32)) (l := 0) (h := 0) (by decide) (by decide)) (by decide)) ?_
          refine tp_e (f_X10_within.eq_1 _ _ _) ?_
          refine tp_nif (fun c25 => ?_) (fun c25 => ?_)
          · skip
            have r26 : R32 (-2147483648) (-1) k3 := r_lt1 (by decide) (r_top _) (r_n (x := (0 : Int32)) (l := 0) (h := 0) (by decide) (by decide)) c25
            refine tp_nl ?_
            refine tp_ift (d_eq (r_n (x := (0 : Int32)) (l := 0) (h := 0) (by decide) (by decide)) (r_n (x := (0 : Int32)) (l := 0) (h := 0) (by decide) (by decide))) ?_
            refine tp_u (f_X10_lines_J34.eq_1 _ _ _ _ _ _) ?_
            refine tp_u (f_X10_lines_J35.eq_1 _ _ _ _ _ _ _) ?_
            refine tp_e (f_X10_numberTrouble.eq_1 _ _) ?_
            refine tp_nn ?_
            refine tp_e (f_X10_pierTrouble.eq_1 _) ?_
            refine tp_nif (fun c27 => ?_) (fun c27 => ?_)
            · skip
              have r28 : R32 (0) (0) p_p.1 := r_eq1 (l := 0) (h := 0) (by decide) (by decide) h_p_p_1 (r_n (x := (0 : Int32)) (l := 0) (h := 0) (by decide) (by decide)) c27
              refine tp_nl ?_
              refine tp_niff (d_ne2 (r_n (x := (1 : Int32)) (l := 1) (h := 1) (by decide) (by decide)) (r_n (x := (0 : Int32)) (l := 0) (h := 0) (by decide) (by decide)) (by decide)) ?_
              refine tp_e (f_X10_numberTrouble_J17.eq_1 _) ?_
              refine tp_nl ?_
              refine tp_e (f_X10_refused.eq_1 _ _) ?_
              refine tp_niff (d_ne2 (r_n (x := (1 : Int32)) (l := 1) (h := 1) (by decide) (by decide)) (r_n (x := (0 : Int32)) (l := 0) (h := 0) (by decide) (by decide)) (by decide)) ?_
              refine tp_nl ?_
              refine tp_iff (d_ne2 (r_n (x := (1 : Int32)) (l := 1) (h := 1) (by decide) (by decide)) (r_n (x := (0 : Int32)) (l := 0) (h := 0) (by decide) (by decide)) (by decide)) ?_
              exact tp_s (r_w (l' := 0) (h' := 2) (r_n (x := (1 : Int32)) (l := 1) (h := 1) (by decide) (by decide)) (by decide) (by decide))
            · skip
              have r29 : R32 (1) (8) p_p.1 := r_neL (by decide) h_p_p_1 (r_n (x := (0 : Int32)) (l := 0) (h := 0) (by decide) (by decide)) c27
              refine tp_nl ?_
              refine tp_nift (d_eq (r_n (x := (0 : Int32)) (l := 0) (h := 0) (by decide) (by decide)) (r_n (x := (0 : Int32)) (l := 0) (h := 0) (by decide) (by decide))) ?_
              refine tp_nift (d_eq (r_n (x := (0 : Int32)) (l := 0) (h := 0) (by decide) (by decide)) (r_n (x := (0 : Int32)) (l := 0) (h := 0) (by decide) (by decide))) ?_
              refine tp_nl ?_
              refine tp_e (f_X10_refused.eq_1 _ _) ?_
              refine tp_niff (d_ne2 (r_n (x := (2 : Int32)) (l := 2) (h := 2) (by decide) (by decide)) (r_n (x := (0 : Int32)) (l := 0) (h := 0) (by decide) (by decide)) (by decide)) ?_
              refine tp_nl ?_
              refine tp_iff (d_ne2 (r_n (x := (1 : Int32)) (l := 1) (h := 1) (by decide) (by decide)) (r_n (x := (0 : Int32)) (l := 0) (h := 0) (by decide) (by decide)) (by decide)) ?_
              exact tp_s (r_w (l' := 0) (h' := 2) (r_n (x := (2 : Int32)) (l := 2) (h := 2) (by decide) (by decide)) (by decide) (by decide))
          · skip
            have r30 : R32 (0) (2147483647) k3 := r_nlt1 (r_top _) (r_n (x := (0 : Int32)) (l := 0) (h := 0) (by decide) (by decide)) c25
            refine tp_nif (fun c31 => ?_) (fun c31 => ?_)
            · skip
              have r32 : R32 (7) (2147483647) k3 := r_lt2 (by decide) (r_n (x := (6 : Int32)) (l := 6) (h := 6) (by decide) (by decide)) r30 c31
              refine tp_nl ?_
              refine tp_ift (d_eq (r_n (x := (0 : Int32)) (l := 0) (h := 0) (by decide) (by decide)) (r_n (x := (0 : Int32)) (l := 0) (h := 0) (by decide) (by decide))) ?_
              refine tp_u (f_X10_lines_J34.eq_1 _ _ _ _ _ _) ?_
              refine tp_u (f_X10_lines_J35.eq_1 _ _ _ _ _ _ _) ?_
              refine tp_e (f_X10_numberTrouble.eq_1 _ _) ?_
              refine tp_nn ?_
              refine tp_e (f_X10_pierTrouble.eq_1 _) ?_
              refine tp_nif (fun c33 => ?_) (fun c33 => ?_)
              · skip
                have r34 : R32 (0) (0) p_p.1 := r_eq1 (l := 0) (h := 0) (by decide) (by decide) h_p_p_1 (r_n (x := (0 : Int32)) (l := 0) (h := 0) (by decide) (by decide)) c33
                refine tp_nl ?_
                refine tp_niff (d_ne2 (r_n (x := (1 : Int32)) (l := 1) (h := 1) (by decide) (by decide)) (r_n (x := (0 : Int32)) (l := 0) (h := 0) (by decide) (by decide)) (by decide)) ?_
                refine tp_e (f_X10_numberTrouble_J17.eq_1 _) ?_
                refine tp_nl ?_
                refine tp_e (f_X10_refused.eq_1 _ _) ?_
                refine tp_niff (d_ne2 (r_n (x := (1 : Int32)) (l := 1) (h := 1) (by decide) (by decide)) (r_n (x := (0 : Int32)) (l := 0) (h := 0) (by decide) (by decide)) (by decide)) ?_
                refine tp_nl ?_
                refine tp_iff (d_ne2 (r_n (x := (1 : Int32)) (l := 1) (h := 1) (by decide) (by decide)) (r_n (x := (0 : Int32)) (l := 0) (h := 0) (by decide) (by decide)) (by decide)) ?_
                exact tp_s (r_w (l' := 0) (h' := 2) (r_n (x := (1 : Int32)) (l := 1) (h := 1) (by decide) (by decide)) (by decide) (by decide))
              · skip
                have r35 : R32 (1) (8) p_p.1 := r_neL (by decide) h_p_p_1 (r_n (x := (0 : Int32)) (l := 0) (h := 0) (by decide) (by decide)) c33
                refine tp_nl ?_
                refine tp_nift (d_eq (r_n (x := (0 : Int32)) (l := 0) (h := 0) (by decide) (by decide)) (r_n (x := (0 : Int32)) (l := 0) (h := 0) (by decide) (by decide))) ?_
                refine tp_nift (d_eq (r_n (x := (0 : Int32)) (l := 0) (h := 0) (by decide) (by decide)) (r_n (x := (0 : Int32)) (l := 0) (h := 0) (by decide) (by decide))) ?_
                refine tp_nl ?_
                refine tp_e (f_X10_refused.eq_1 _ _) ?_
                refine tp_niff (d_ne2 (r_n (x := (2 : Int32)) (l := 2) (h := 2) (by decide) (by decide)) (r_n (x := (0 : Int32)) (l := 0) (h := 0) (by decide) (by decide)) (by decide)) ?_
                refine tp_nl ?_
                refine tp_iff (d_ne2 (r_n (x := (1 : Int32)) (l := 1) (h := 1) (by decide) (by decide)) (r_n (x := (0 : Int32)) (l := 0) (h := 0) (by decide) (by decide)) (by decide)) ?_
                exact tp_s (r_w (l' := 0) (h' := 2) (r_n (x := (2 : Int32)) (l := 2) (h := 2) (by decide) (by decide)) (by decide) (by decide))
            · skip
              have r36 : R32 (0) (6) k3 := r_nlt2 (r_n (x := (6 : Int32)) (l := 6) (h := 6) (by decide) (by decide)) r30 c31
              refine tp_nl ?_
              refine tp_iff (d_ne2 (r_n (x := (1 : Int32)) (l := 1) (h := 1) (by decide) (by decide)) (r_n (x := (0 : Int32)) (l := 0) (h := 0) (by decide) (by decide)) (by decide)) ?_
              refine tp_u (f_X10_lines_J35.eq_1 _ _ _ _ _ _ _) ?_
              refine tp_e (f_X10_numberTrouble.eq_1 _ _) ?_
              refine tp_nn ?_
              refine tp_e (f_X10_pierTrouble.eq_1 _) ?_
              refine tp_nif (fun c37 => ?_) (fun c37 => ?_)
              · skip
                have r38 : R32 (0) (0) p_p.1 := r_eq1 (l := 0) (h := 0) (by decide) (by decide) h_p_p_1 (r_n (x := (0 : Int32)) (l := 0) (h := 0) (by decide) (by decide)) c37
                refine tp_nl ?_
                refine tp_niff (d_ne2 (r_n (x := (1 : Int32)) (l := 1) (h := 1) (by decide) (by decide)) (r_n (x := (0 : Int32)) (l := 0) (h := 0) (by decide) (by decide)) (by decide)) ?_
                refine tp_e (f_X10_numberTrouble_J17.eq_1 _) ?_
                refine tp_nl ?_
                refine tp_e (f_X10_refused.eq_1 _ _) ?_
                refine tp_niff (d_ne2 (r_n (x := (1 : Int32)) (l := 1) (h := 1) (by decide) (by decide)) (r_n (x := (0 : Int32)) (l := 0) (h := 0) (by decide) (by decide)) (by decide)) ?_
                refine tp_nl ?_
                refine tp_iff (d_ne2 (r_n (x := (1 : Int32)) (l := 1) (h := 1) (by decide) (by decide)) (r_n (x := (0 : Int32)) (l := 0) (h := 0) (by decide) (by decide)) (by decide)) ?_
                exact tp_s (r_w (l' := 0) (h' := 2) (r_n (x := (1 : Int32)) (l := 1) (h := 1) (by decide) (by decide)) (by decide) (by decide))
              · skip
                have r39 : R32 (1) (8) p_p.1 := r_neL (by decide) h_p_p_1 (r_n (x := (0 : Int32)) (l := 0) (h := 0) (by decide) (by decide)) c37
                refine tp_nl ?_
                refine tp_nift (d_eq (r_n (x := (0 : Int32)) (l := 0) (h := 0) (by decide) (by decide)) (r_n (x := (0 : Int32)) (l := 0) (h := 0) (by decide) (by decide))) ?_
                refine tp_niff (d_ne2 (r_n (x := (1 : Int32)) (l := 1) (h := 1) (by decide) (by decide)) (r_n (x := (0 : Int32)) (l := 0) (h := 0) (by decide) (by decide)) (by decide)) ?_
                refine tp_e (f_X10_numberTrouble_J17.eq_1 _) ?_
                refine tp_nl ?_
                refine tp_e (f_X10_refused.eq_1 _ _) ?_
                refine tp_nift (d_eq (r_n (x := (0 : Int32)) (l := 0) (h := 0) (by decide) (by decide)) (r_n (x := (0 : Int32)) (l := 0) (h := 0) (by decide) (by decide))) ?_
                refine tp_nl ?_
                refine tp_ift (d_eq (r_n (x := (0 : Int32)) (l := 0) (h := 0) (by decide) (by decide)) (r_n (x := (0 : Int32)) (l := 0) (h := 0) (by decide) (by decide))) ?_
                refine tp_if (fun c40 => ?_) (fun c40 => ?_)
                · skip
                  have r41 : R32 (0) (0) k4 := r_eq1 (l := 0) (h := 0) (by decide) (by decide) (r_top _) (r_n (x := (0 : Int32)) (l := 0) (h := 0) (by decide) (by decide)) c40
                  refine tp_b (t_f_X9_gain r12 r24 r36) (fun o70 h42 => ?_)
                  exact tp_s (r_w (l' := 0) (h' := 2) (r_n (x := (0 : Int32)) (l := 0) (h := 0) (by decide) (by decide)) (by decide) (by decide))
                · skip
                  refine tp_b (t_f_X9_gain r12 r36 r24) (fun o61 h43 => ?_)
                  exact tp_s (r_w (l' := 0) (h' := 2) (r_n (x := (0 : Int32)) (l := 0) (h := 0) (by decide) (by decide)) (by decide) (by decide))
theorem t_f_X9_isBestAlone_L2 {k0 : Int32} {k1 : Int32} {k2 : Int32} (h_k0 : R32 (0) (99) k0) (h_k1 : R32 (0) (6) k1) (h_k2 : R32 (0) (6) k2) : ∀ (n : Nat) (v2_l3 : Int32), R32 (0) (7) v2_l3 → (7 : Int) - v2_l3.toInt < (n : Int) → TotP (f_X9_isBestAlone_L2 k0 k1 k2 n v2_l3) (fun (r : Int32) => R32 (0) (1) r) := by
  intro n
  induction n with
  | zero =>
    intro v2_l3 h_v2_l3 hm
    exact (ms_0u h_v2_l3 hm).elim
  | succ n ih =>
    intro v2_l3 h_v2_l3 hm
    rw [f_X9_isBestAlone_L2]
    refine tp_if (fun c1 => ?_) (fun c1 => ?_)
    · skip
      have r2 : R32 (7) (7) v2_l3 := r_lt2 (by decide) (r_n (x := (6 : Int32)) (l := 6) (h := 6) (by decide) (by decide)) h_v2_l3 c1
      exact tp_s (r_w (l' := 0) (h' := 1) (r_n (x := (1 : Int32)) (l := 1) (h := 1) (by decide) (by decide)) (by decide) (by decide))
    · skip
      have r3 : R32 (0) (6) v2_l3 := r_nlt2 (r_n (x := (6 : Int32)) (l := 6) (h := 6) (by decide) (by decide)) h_v2_l3 c1
      refine tp_b (t_f_X9_gain h_k0 r3 h_k2) (fun o11 h4 => ?_)
      refine tp_b (t_f_X9_gain h_k0 h_k1 h_k2) (fun o17 h5 => ?_)
      refine tp_if (fun c6 => ?_) (fun c6 => ?_)
      · skip
        exact ih _ (r_w (l' := 0) (h' := 7) (r_add (l := 1) (h := 7) r3 (r_n (x := (1 : Int32)) (l := 1) (h := 1) (by decide) (by decide)) (by decide) (by decide) (by decide) (by decide)) (by decide) (by decide)) (ms_up (y := (1 : Int32)) r3 (by decide) (by decide) (by decide) hm)
      · skip
        have r7 : R32 (-2147483647) (2147483647) o11 := r_nle1 (by decide) (r_top _) (r_top _) c6
        have r8 : R32 (-2147483648) (2147483646) o17 := r_nle2 (by decide) (r_top _) (r_top _) c6
        exact tp_s (r_w (l' := 0) (h' := 1) (r_n (x := (0 : Int32)) (l := 0) (h := 0) (by decide) (by decide)) (by decide) (by decide))
theorem t_f_X9_isBestAlone {k0 : Int32} {k1 : Int32} {k2 : Int32} (h_k0 : R32 (0) (99) k0) (h_k1 : R32 (0) (6) k1) (h_k2 : R32 (0) (6) k2) : TotP (f_X9_isBestAlone k0 k1 k2) (fun (r : Int32) => R32 (0) (1) r) := by
  unfold f_X9_isBestAlone
  exact t_f_X9_isBestAlone_L2 h_k0 h_k1 h_k2 FU _ (r_w (l' := 0) (h' := 7) (r_n (x := (0 : Int32)) (l := 0) (h := 0) (by decide) (by decide)) (by decide) (by decide)) (fu_up (r_w (l' := 0) (h' := 7) (r_n (x := (0 : Int32)) (l := 0) (h := 0) (by decide) (by decide)) (by decide) (by decide)) (by decide))
theorem t_f_X9_isRest {k0 : Int32} {k1 : Int32} (h_k0 : R32 (0) (99) k0) (h_k1 : R32 (0) (69) k1) : TotP (f_X9_isRest k0 k1) (fun (r : Int32) => R32 (0) (1) r) := by
  unfold f_X9_isRest
  refine tp_if (fun c1 => ?_) (fun c1 => ?_)
  · skip
    have r2 : R32 (7) (9) (k1 - ((k1 / (10 : Int32)) * (10 : Int32))) := r_lt2 (by decide) (r_n (x := (6 : Int32)) (l := 6) (h := 6) (by decide) (by decide)) (r_mod (c := 10) (h := 9) (y := (10 : Int32)) h_k1 (by decide) (by decide) (by decide) (by decide)) c1
    exact tp_s (r_w (l' := 0) (h' := 1) (r_n (x := (0 : Int32)) (l := 0) (h := 0) (by decide) (by decide)) (by decide) (by decide))
  · skip
    have r3 : R32 (0) (6) (k1 - ((k1 / (10 : Int32)) * (10 : Int32))) := r_nlt2 (r_n (x := (6 : Int32)) (l := 6) (h := 6) (by decide) (by decide)) (r_mod (c := 10) (h := 9) (y := (10 : Int32)) h_k1 (by decide) (by decide) (by decide) (by decide)) c1
    refine tp_b (t_f_X9_isBestAlone h_k0 (r_div (l := 0) (h := 6) h_k1 (r_n (x := (10 : Int32)) (l := 10) (h := 10) (by decide) (by decide)) (by decide) (by decide) (by decide) (by decide)) r3) (fun o19 h4 => ?_)
    refine tp_if (fun c5 => ?_) (fun c5 => ?_)
    · skip
      have r6 : R32 (0) (0) o19 := r_eq1 (l := 0) (h := 0) (by decide) (by decide) h4 (r_n (x := (0 : Int32)) (l := 0) (h := 0) (by decide) (by decide)) c5
      exact tp_s (r_w (l' := 0) (h' := 1) (r_n (x := (0 : Int32)) (l := 0) (h := 0) (by decide) (by decide)) (by decide) (by decide))
    · skip
      have r7 : R32 (1) (1) o19 := r_neL (by decide) h4 (r_n (x := (0 : Int32)) (l := 0) (h := 0) (by decide) (by decide)) c5
      refine tp_b (t_f_X9_isBestAlone h_k0 r3 (r_div (l := 0) (h := 6) h_k1 (r_n (x := (10 : Int32)) (l := 10) (h := 10) (by decide) (by decide)) (by decide) (by decide) (by decide) (by decide))) (fun o28 h8 => ?_)
      refine tp_if (fun c9 => ?_) (fun c9 => ?_)
      · skip
        have r10 : R32 (0) (0) o28 := r_eq1 (l := 0) (h := 0) (by decide) (by decide) h8 (r_n (x := (0 : Int32)) (l := 0) (h := 0) (by decide) (by decide)) c9
        exact tp_s (r_w (l' := 0) (h' := 1) (r_n (x := (0 : Int32)) (l := 0) (h := 0) (by decide) (by decide)) (by decide) (by decide))
      · skip
        have r11 : R32 (1) (1) o28 := r_neL (by decide) h8 (r_n (x := (0 : Int32)) (l := 0) (h := 0) (by decide) (by decide)) c9
        exact tp_s (r_w (l' := 0) (h' := 1) (r_n (x := (1 : Int32)) (l := 1) (h := 1) (by decide) (by decide)) (by decide) (by decide))
theorem t_f_X10_rests_J41 {k24_ : Int32 → Int32 → Option (Int32 × TX10_x)} {v24_l3 : Int32} {v41_l2 : Int32} {N24 : Nat} (hk24 : ∀ (v24_l3 : Int32) (v24_l2 : Int32), R32 (0) (70) v24_l3 → (70 : Int) - v24_l3.toInt < (N24 : Nat) → TotP (k24_ v24_l3 v24_l2) (fun (r : Int32 × TX10_x) => R32 (0) (2) r.2.1)) (hm24 : (70 : Int) - v24_l3.toInt < ((N24 + 1 : Nat) : Int)) (h_v24_l3 : R32 (0) (69) v24_l3) : TotP (f_X10_rests_J41 k24_ v24_l3 v41_l2) (fun (r : Int32 × TX10_x) => R32 (0) (2) r.2.1) := by
  unfold f_X10_rests_J41
  exact hk24 _ _ (r_w (l' := 0) (h' := 70) (r_add (l := 1) (h := 70) h_v24_l3 (r_n (x := (1 : Int32)) (l := 1) (h := 1) (by decide) (by decide)) (by decide) (by decide) (by decide) (by decide)) (by decide) (by decide)) (ms_up (y := (1 : Int32)) h_v24_l3 (by decide) (by decide) (by decide) hm24)
theorem t_f_X10_rests_L24 {k1 : Int32} {o12 : (Int32 × TX10_x)} (h_k1 : R32 (0) (99) k1) (h_o12_1 : R32 (0) (0) o12.1) (h_o12_2_1 : R32 (0) (0) o12.2.1) : ∀ (n : Nat) (v24_l3 : Int32) (v24_l2 : Int32), R32 (0) (70) v24_l3 → (70 : Int) - v24_l3.toInt < (n : Int) → TotP (f_X10_rests_L24 k1 o12 n v24_l3 v24_l2) (fun (r : Int32 × TX10_x) => R32 (0) (2) r.2.1) := by
  intro n
  induction n with
  | zero =>
    intro v24_l3 v24_l2 h_v24_l3 hm
    exact (ms_0u h_v24_l3 hm).elim
  | succ n ih =>
    intro v24_l3 v24_l2 h_v24_l3 hm
    rw [f_X10_rests_L24]
    refine tp_if (fun c1 => ?_) (fun c1 => ?_)
    · skip
      have r2 : R32 (70) (70) v24_l3 := r_le2 (r_n (x := (70 : Int32)) (l := 70) (h := 70) (by decide) (by decide)) h_v24_l3 c1
      exact tp_s (r_w (l' := 0) (h' := 2) h_o12_2_1 (by decide) (by decide))
    · skip
      have r3 : R32 (0) (69) v24_l3 := r_nle2 (by decide) (r_n (x := (70 : Int32)) (l := 70) (h := 70) (by decide) (by decide)) h_v24_l3 c1
      refine tp_b (t_f_X9_isRest h_k1 r3) (fun o32 h4 => ?_)
      refine tp_if (fun c5 => ?_) (fun c5 => ?_)
      · skip
        have r6 : R32 (0) (0) o32 := r_eq1 (l := 0) (h := 0) (by decide) (by decide) h4 (r_n (x := (0 : Int32)) (l := 0) (h := 0) (by decide) (by decide)) c5
        exact t_f_X10_rests_J41 ih hm r3
      · skip
        have r7 : R32 (1) (1) o32 := r_neL (by decide) h4 (r_n (x := (0 : Int32)) (l := 0) (h := 0) (by decide) (by decide)) c5
        exact t_f_X10_rests_J41 ih hm r3
theorem t_f_X10_rests {k1 : Int32} {x_x : TX10_x} {p_p : TX6_p} (h_p_p_1 : R32 (0) (8) p_p.1) (h_p_p_2_1 : R32 (0) (9) p_p.2.1) (h_p_p_2_2_2_2_1 : R32 (0) (4) p_p.2.2.2.2.1) (h_p_p_2_2_2_2_2_1 : R32 (0) (5) p_p.2.2.2.2.2.1) (h_p_p_2_2_2_2_2_2_1 : R32 (0) (6) p_p.2.2.2.2.2.2.1) (h_p_p_2_2_2_2_2_2_2_1 : R32 (0) (6) p_p.2.2.2.2.2.2.2.1) : TotP (f_X10_rests k1 x_x p_p) (fun (r : Int32 × TX10_x) => R32 (0) (2) r.2.1) := by
  unfold f_X10_rests
  refine tp_e (f_X10_within.eq_1 _ _ _) ?_
  refine tp_nif (fun c1 => ?_) (fun c1 => ?_)
  · skip
    have r2 : R32 (-2147483648) (-1) k1 := r_lt1 (by decide) (r_top _) (r_n (x := (0 : Int32)) (l := 0) (h := 0) (by decide) (by decide)) c1
    refine tp_nl ?_
    refine tp_e (f_X10_numberTrouble.eq_1 _ _) ?_
    refine tp_nn ?_
    refine tp_e (f_X10_pierTrouble.eq_1 _) ?_
    refine tp_nif (fun c3 => ?_) (fun c3 => ?_)
    · skip
      have r4 : R32 (0) (0) p_p.1 := r_eq1 (l := 0) (h := 0) (by decide) (by decide) h_p_p_1 (r_n (x := (0 : Int32)) (l := 0) (h := 0) (by decide) (by decide)) c3
      refine tp_nl ?_
      refine tp_niff (d_ne2 (r_n (x := (1 : Int32)) (l := 1) (h := 1) (by decide) (by decide)) (r_n (x := (0 : Int32)) (l := 0) (h := 0) (by decide) (by decide)) (by decide)) ?_
      refine tp_e (f_X10_numberTrouble_J17.eq_1 _) ?_
      refine tp_nl ?_
      refine tp_e (f_X10_refused.eq_1 _ _) ?_
      refine tp_niff (d_ne2 (r_n (x := (1 : Int32)) (l := 1) (h := 1) (by decide) (by decide)) (r_n (x := (0 : Int32)) (l := 0) (h := 0) (by decide) (by decide)) (by decide)) ?_
      refine tp_nl ?_
      refine tp_iff (d_ne2 (r_n (x := (1 : Int32)) (l := 1) (h := 1) (by decide) (by decide)) (r_n (x := (0 : Int32)) (l := 0) (h := 0) (by decide) (by decide)) (by decide)) ?_
      exact tp_s (r_w (l' := 0) (h' := 2) (r_n (x := (1 : Int32)) (l := 1) (h := 1) (by decide) (by decide)) (by decide) (by decide))
    · skip
      have r5 : R32 (1) (8) p_p.1 := r_neL (by decide) h_p_p_1 (r_n (x := (0 : Int32)) (l := 0) (h := 0) (by decide) (by decide)) c3
      refine tp_nl ?_
      refine tp_nift (d_eq (r_n (x := (0 : Int32)) (l := 0) (h := 0) (by decide) (by decide)) (r_n (x := (0 : Int32)) (l := 0) (h := 0) (by decide) (by decide))) ?_
      refine tp_nift (d_eq (r_n (x := (0 : Int32)) (l := 0) (h := 0) (by decide) (by decide)) (r_n (x := (0 : Int32)) (l := 0) (h := 0) (by decide) (by decide))) ?_
      refine tp_nl ?_
      refine tp_e (f_X10_refused.eq_1 _ _) ?_
      refine tp_niff (d_ne2 (r_n (x := (2 : Int32)) (l := 2) (h := 2) (by decide) (by decide)) (r_n (x := (0 : Int32)) (l := 0) (h := 0) (by decide) (by decide)) (by decide)) ?_
      refine tp_nl ?_
      refine tp_iff (d_ne2 (r_n (x := (1 : Int32)) (l := 1) (h := 1) (by decide) (by decide)) (r_n (x := (0 : Int32)) (l := 0) (h := 0) (by decide) (by decide)) (by decide)) ?_
      exact tp_s (r_w (l' := 0) (h' := 2) (r_n (x := (2 : Int32)) (l := 2) (h := 2) (by decide) (by decide)) (by decide) (by decide))
  · skip
    have r6 : R32 (0) (2147483647) k1 := r_nlt1 (r_top _) (r_n (x := (0 : Int32)) (l := 0) (h := 0) (by decide) (by decide)) c1
    refine tp_nif (fun c7 => ?_) (fun c7 => ?_)
    · skip
      have r8 : R32 (100) (2147483647) k1 := r_lt2 (by decide) (r_n (x := (99 : Int32)) (l := 99) (h := 99) (by decide) (by decide)) r6 c7
      refine tp_nl ?_
      refine tp_e (f_X10_numberTrouble.eq_1 _ _) ?_
      refine tp_nn ?_
      refine tp_e (f_X10_pierTrouble.eq_1 _) ?_
      refine tp_nif (fun c9 => ?_) (fun c9 => ?_)
      · skip
        have r10 : R32 (0) (0) p_p.1 := r_eq1 (l := 0) (h := 0) (by decide) (by decide) h_p_p_1 (r_n (x := (0 : Int32)) (l := 0) (h := 0) (by decide) (by decide)) c9
        refine tp_nl ?_
        refine tp_niff (d_ne2 (r_n (x := (1 : Int32)) (l := 1) (h := 1) (by decide) (by decide)) (r_n (x := (0 : Int32)) (l := 0) (h := 0) (by decide) (by decide)) (by decide)) ?_
        refine tp_e (f_X10_numberTrouble_J17.eq_1 _) ?_
        refine tp_nl ?_
        refine tp_e (f_X10_refused.eq_1 _ _) ?_
        refine tp_niff (d_ne2 (r_n (x := (1 : Int32)) (l := 1) (h := 1) (by decide) (by decide)) (r_n (x := (0 : Int32)) (l := 0) (h := 0) (by decide) (by decide)) (by decide)) ?_
        refine tp_nl ?_
        refine tp_iff (d_ne2 (r_n (x := (1 : Int32)) (l := 1) (h := 1) (by decide) (by decide)) (r_n (x := (0 : Int32)) (l := 0) (h := 0) (by decide) (by decide)) (by decide)) ?_
        exact tp_s (r_w (l' := 0) (h' := 2) (r_n (x := (1 : Int32)) (l := 1) (h := 1) (by decide) (by decide)) (by decide) (by decide))
      · skip
        have r11 : R32 (1) (8) p_p.1 := r_neL (by decide) h_p_p_1 (r_n (x := (0 : Int32)) (l := 0) (h := 0) (by decide) (by decide)) c9
        refine tp_nl ?_
        refine tp_nift (d_eq (r_n (x := (0 : Int32)) (l := 0) (h := 0) (by decide) (by decide)) (r_n (x := (0 : Int32)) (l := 0) (h := 0) (by decide) (by decide))) ?_
        refine tp_nift (d_eq (r_n (x := (0 : Int32)) (l := 0) (h := 0) (by decide) (by decide)) (r_n (x := (0 : Int32)) (l := 0) (h := 0) (by decide) (by decide))) ?_
        refine tp_nl ?_
        refine tp_e (f_X10_refused.eq_1 _ _) ?_
        refine tp_niff (d_ne2 (r_n (x := (2 : Int32)) (l := 2) (h := 2) (by decide) (by decide)) (r_n (x := (0 : Int32)) (l := 0) (h := 0) (by decide) (by decide)) (by decide)) ?_
        refine tp_nl ?_
        refine tp_iff (d_ne2 (r_n (x := (1 : Int32)) (l := 1) (h := 1) (by decide) (by decide)) (r_n (x := (0 : Int32)) (l := 0) (h := 0) (by decide) (by decide)) (by decide)) ?_
        exact tp_s (r_w (l' := 0) (h' := 2) (r_n (x := (2 : Int32)) (l := 2) (h := 2) (by decide) (by decide)) (by decide) (by decide))
    · skip
      have r12 : R32 (0) (99) k1 := r_nlt2 (r_n (x := (99 : Int32)) (l := 99) (h := 99) (by decide) (by decide)) r6 c7
      refine tp_nl ?_
      refine tp_e (f_X10_numberTrouble.eq_1 _ _) ?_
      refine tp_nn ?_
      refine tp_e (f_X10_pierTrouble.eq_1 _) ?_
      refine tp_nif (fun c13 => ?_) (fun c13 => ?_)
      · skip
        have r14 : R32 (0) (0) p_p.1 := r_eq1 (l := 0) (h := 0) (by decide) (by decide) h_p_p_1 (r_n (x := (0 : Int32)) (l := 0) (h := 0) (by decide) (by decide)) c13
        refine tp_nl ?_
        refine tp_niff (d_ne2 (r_n (x := (1 : Int32)) (l := 1) (h := 1) (by decide) (by decide)) (r_n (x := (0 : Int32)) (l := 0) (h := 0) (by decide) (by decide)) (by decide)) ?_
        refine tp_e (f_X10_numberTrouble_J17.eq_1 _) ?_
        refine tp_nl ?_
        refine tp_e (f_X10_refused.eq_1 _ _) ?_
        refine tp_niff (d_ne2 (r_n (x := (1 : Int32)) (l := 1) (h := 1) (by decide) (by decide)) (r_n (x := (0 : Int32)) (l := 0) (h := 0) (by decide) (by decide)) (by decide)) ?_
        refine tp_nl ?_
        refine tp_iff (d_ne2 (r_n (x := (1 : Int32)) (l := 1) (h := 1) (by decide) (by decide)) (r_n (x := (0 : Int32)) (l := 0) (h := 0) (by decide) (by decide)) (by decide)) ?_
        exact tp_s (r_w (l' := 0) (h' := 2) (r_n (x := (1 : Int32)) (l := 1) (h := 1) (by decide) (by decide)) (by decide) (by decide))
      · skip
        have r15 : R32 (1) (8) p_p.1 := r_neL (by decide) h_p_p_1 (r_n (x := (0 : Int32)) (l := 0) (h := 0) (by decide) (by decide)) c13
        refine tp_nl ?_
        refine tp_nift (d_eq (r_n (x := (0 : Int32)) (l := 0) (h := 0) (by decide) (by decide)) (r_n (x := (0 : Int32)) (l := 0) (h := 0) (by decide) (by decide))) ?_
        refine tp_niff (d_ne2 (r_n (x := (1 : Int32)) (l := 1) (h := 1) (by decide) (by decide)) (r_n (x := (0 : Int32)) (l := 0) (h := 0) (by decide) (by decide)) (by decide)) ?_
        refine tp_e (f_X10_numberTrouble_J17.eq_1 _) ?_
        refine tp_nl ?_
        refine tp_e (f_X10_refused.eq_1 _ _) ?_
        refine tp_nift (d_eq (r_n (x := (0 : Int32)) (l := 0) (h := 0) (by decide) (by decide)) (r_n (x := (0 : Int32)) (l := 0) (h := 0) (by decide) (by decide))) ?_
        refine tp_nl ?_
        refine tp_ift (d_eq (r_n (x := (0 : Int32)) (l := 0) (h := 0) (by decide) (by decide)) (r_n (x := (0 : Int32)) (l := 0) (h := 0) (by decide) (by decide))) ?_
        exact t_f_X10_rests_L24 r12 (r_n (x := (0 : Int32)) (l := 0) (h := 0) (by decide) (by decide)) (r_n (x := (0 : Int32)) (l := 0) (h := 0) (by decide) (by decide)) FU _ _ (r_w (l' := 0) (h' := 70) (r_n (x := (0 : Int32)) (l := 0) (h := 0) (by decide) (by decide)) (by decide) (by decide)) (fu_up (r_w (l' := 0) (h' := 70) (r_n (x := (0 : Int32)) (l := 0) (h := 0) (by decide) (by decide)) (by decide) (by decide)) (by decide))
