/-! worth, rests; and without a pier -/
section MORE
variable {p : TX6_p} {q : TX11_q} {sp de ba as an bi cf ct : Nat}
theorem keeps_eq (h : PQ p q sp de ba as an bi cf ct) {a : Nat} (ha : a < an) {l d : Int32} (h1 : 0 ≤ (d - l).toInt) (h2 : (d - l).toInt ≤ 5000) : f_X6_worthAfter (nI a) (d - l) p = f_X12_keeps (nI a) l d q := by
  obtain ⟨-, -, -, -, -, ⟨n1, n2, n3⟩, -, -, -, hw, -⟩ := id h
  obtain ⟨⟨k1, k2, k3⟩, -, -, -, -, ⟨u1, u2, u3⟩⟩ := hw a ha
  have hv : vp_in (nI a) 6 := vin (by omega) (by omega)
  have e5 : ((5 : Int32) * (d - l)).toInt = 5 * (d - l).toInt := by rw [imul_t (by rw [ltv_5]; omega) (by rw [ltv_5]; omega), ltv_5]
  simp only [f_X6_worthAfter, f_X12_keeps, nm, gA_in hv, nI_clamp (show a < 2 ^ 31 by omega), k1, u1]
  by_cases c1 : qKi q a = 1
  · rw [if_pos c1, if_pos c1]
  · rw [if_neg c1, if_neg c1]
    by_cases c3 : qKi q a = 3
    · rw [if_pos c3, if_pos c3]
      unfold imin
      by_cases c : (99 : Int32) ≤ qWo q a + (d - l)
      · rw [if_pos c, if_neg (show ¬ qWo q a + (d - l) < (99 : Int32) by rw [fa_lt]; rw [fa_le] at c; omega)]
      · rw [if_neg c, if_pos (show qWo q a + (d - l) < (99 : Int32) by rw [fa_lt]; rw [fa_le] at c; omega)]
    · rw [if_neg c3, if_neg c3]
      have es : (qWo q a - 5 * (d - l)).toInt = (qWo q a).toInt - 5 * (d - l).toInt := by rw [isub_t (by rw [e5]; omega) (by rw [e5]; omega), e5]
      unfold imax
      by_cases c : qWo q a ≤ 5 * (d - l)
      · rw [if_pos c, if_neg (show ¬ (0 : Int32) < qWo q a - 5 * (d - l) by rw [fa_lt, ltv_0, es]; rw [fa_le, e5] at c; omega)]
      · rw [if_neg c, if_pos (show (0 : Int32) < qWo q a - 5 * (d - l) by rw [fa_lt, ltv_0, es]; rw [fa_le, e5] at c; omega)]
theorem eq_worth (h : PQ p q sp de ba as an bi cf ct) (k1 k2 k3 : Int32) (x : TX10_x) (t : TX12_t) : ∃ (w : Option Int32) (tr : Int32), f_X10_worth k1 k2 k3 x p = w.map (fun r => (r, (tr, x.2))) ∧ f_X12_worth k1 k2 k3 t q = w.map (fun r => (r, (0, tr, -1))) := by
  rw [f_X10_worth, f_X12_worth, f_X10_answerTrouble]
  dsimp only [nm]
  by_cases g : inN k1 an
  · obtain ⟨e1, e2⟩ := (hasAn h k1).1 g
    rw [e1, e2, if_neg one_ne, if_neg one_ne, in_wi, in_wi]
    have bad : f_X10_worth_J33 k1 k2 k3 x p 0 = some (-1, (2, x.2)) := by
      rw [f_X10_worth_J33, f_X10_worth_J34, if_pos rfl, if_pos rfl, f_X10_worth_J53, nm, ref_n (show ¬ (2 : Int32) = 0 by decide), if_neg one_ne]
    have badm : f_X12_worth_J55 t = some (-1, (0, 2, -1)) := rfl
    rcases w01 k2 0 999 with a1 | a1
    · rw [a1, if_pos rfl, if_pos rfl, bad, badm]
      exact ⟨some (-1), 2, rfl, rfl⟩
    · rw [a1, if_neg one_ne, if_neg one_ne]
      obtain ⟨b1, b2⟩ := wi_b (a := 0) (b := 999) (by omega) (by omega) a1
      obtain ⟨l, hl, rfl⟩ := inn_of (show 0 ≤ k2.toInt by omega)
      rcases w01 k3 (nI l) 999 with a2 | a2
      · rw [a2, if_pos rfl, if_pos rfl, bad, badm]
        exact ⟨some (-1), 2, rfl, rfl⟩
      · rw [a2, if_neg one_ne, if_neg one_ne, f_X10_worth_J34, if_pos rfl, if_neg one_ne, f_X10_worth_J51, f_X10_worth_J53, nm, ref_0, if_pos rfl]
        rw [nI_toInt hl] at b1 b2
        obtain ⟨c1, c2⟩ := wi_b (a := l) (b := 999) (by omega) (by omega) a2
        have ed : (k3 - nI l).toInt = k3.toInt - (l : Int) := by rw [isub_t (by rw [nI_toInt hl]; omega) (by rw [nI_toInt hl]; omega), nI_toInt hl]
        obtain ⟨a, ha, rfl⟩ := inN_of g
        rw [keeps_eq h ha (by rw [ed]; omega) (by rw [ed]; omega)]
        refine ⟨f_X12_keeps (nI a) (nI l) k3 q, 0, ?_, ?_⟩ <;> cases f_X12_keeps (nI a) (nI l) k3 q <;> rfl
  · obtain ⟨e1, e2⟩ := (hasAn h k1).2 g
    rw [e1, e2, if_pos rfl, if_pos rfl]
    have bad : f_X10_worth_J33 k1 k2 k3 x p 1 = some (-1, (1, x.2)) := by
      rw [f_X10_worth_J33, f_X10_worth_J34, if_neg one_ne, f_X10_worth_J51, f_X10_worth_J53, nm, ref_n one_ne, if_neg one_ne]
    have bad2 : f_X10_worth_J34 k1 k2 k3 x p 1 1 = some (-1, (1, x.2)) := by
      rw [f_X10_worth_J34, if_neg one_ne, f_X10_worth_J51, f_X10_worth_J53, nm, ref_n one_ne, if_neg one_ne]
    refine ⟨some (-1), 1, ?_, rfl⟩
    rcases w01 k2 0 999 with a1 | a1
    · rw [a1, if_pos rfl, bad]
      rfl
    · rw [a1, if_neg one_ne]
      rcases w01 k3 k2 999 with a2 | a2
      · rw [a2, if_pos rfl, bad]
        rfl
      · rw [a2, if_neg one_ne, bad2]
        rfl
theorem rests_o (k : Int32) (o : Int32 × TX10_x) : ∀ (n : Nat) (a b : Int32), f_X10_rests_L24 k o n a b = (f_X10_rests_L24 k (0, 0, 0) n a b).map (fun z => (z.1, o.2)) := by
  intro n
  induction n with
  | zero => intro a b; rfl
  | succ n ih =>
    intro a b
    rw [f_X10_rests_L24, f_X10_rests_L24]
    by_cases c : (70 : Int32) ≤ a
    · rw [if_pos c, if_pos c]
      rfl
    · rw [if_neg c, if_neg c]
      cases f_X9_isRest k a with
      | none => rfl
      | some r =>
        rw [Option.bind_some, Option.bind_some]
        by_cases c2 : r = 0
        · rw [if_pos c2, if_pos c2]
          exact ih _ _
        · rw [if_neg c2, if_neg c2]
          exact ih _ _
theorem rests_m (k : Int32) (t : TX12_t) : ∀ (n : Nat) (a b : Int32), f_X12_rests_L26 k t n a b = (f_X12_rests_L26 k (0, 0, 0) n a b).map (fun z => (z.1, (0, 0, -1))) := by
  intro n
  induction n with
  | zero => intro a b; rfl
  | succ n ih =>
    intro a b
    rw [f_X12_rests_L26, f_X12_rests_L26]
    by_cases c : (49 : Int32) ≤ a
    · rw [if_pos c, if_pos c]
      rfl
    · rw [if_neg c, if_neg c]
      cases f_X12_isRest k (a / 7) (a - a / 7 * 7) with
      | none => rfl
      | some r =>
        rw [Option.bind_some, Option.bind_some]
        by_cases c2 : r = 0
        · rw [if_pos c2, if_pos c2]
          exact ih _ _
        · rw [if_neg c2, if_neg c2]
          exact ih _ _
theorem rest_o (k : Int32) (o : Int32 × TX10_x) : ∀ (n : Nat) (a : Int32), f_X10_rest_L22 k o n a = (f_X10_rest_L22 k (0, 0, 0) n a).map (fun z => (z.1, o.2)) := by
  intro n
  induction n with
  | zero => intro a; rfl
  | succ n ih =>
    intro a
    rw [f_X10_rest_L22, f_X10_rest_L22]
    by_cases c : (70 : Int32) ≤ a
    · rw [if_pos c, if_pos c]
      rfl
    · rw [if_neg c, if_neg c]
      cases f_X9_isRest k a with
      | none => rfl
      | some r =>
        rw [Option.bind_some, Option.bind_some]
        by_cases c2 : r = 0
        · rw [if_pos c2, if_pos c2]
          exact ih _
        · rw [if_neg c2, if_neg c2]
          rfl
theorem rest_m (k : Int32) (t : TX12_t) : ∀ (n : Nat) (a : Int32), f_X12_rest_L23 k t n a = (f_X12_rest_L23 k (0, 0, 0) n a).map (fun z => (z.1, (0, 0, -1))) := by
  intro n
  induction n with
  | zero => intro a; rfl
  | succ n ih =>
    intro a
    rw [f_X12_rest_L23, f_X12_rest_L23]
    by_cases c : (49 : Int32) ≤ a
    · rw [if_pos c, if_pos c]
      rfl
    · rw [if_neg c, if_neg c]
      cases f_X12_isRest k (a / 7) (a - a / 7 * 7) with
      | none => rfl
      | some r =>
        rw [Option.bind_some, Option.bind_some]
        by_cases c2 : r = 0
        · rw [if_pos c2, if_pos c2]
          exact ih _
        · rw [if_neg c2, if_neg c2]
          rfl
end MORE
/-! without a pier -/
def PZ (p : TX6_p) : Prop := pSp p = 0 ∧ pDe p = 0 ∧ pBa p = 0 ∧ pAs p = 0 ∧ pAn p = 0 ∧ pBi p = 0
section NONE
variable {p : TX6_p}
theorem wz (k : Int32) : f_X10_within k 0 (0 - 1) = 0 := by
  unfold f_X10_within
  by_cases c : k < 0
  · rw [if_pos c]
  · rw [if_neg c, if_pos]
    rw [fa_lt, ltv_0] at c
    rw [fa_lt, show ((0 : Int32) - 1).toInt = -1 by decide]
    omega
theorem zAn (h : PZ p) (k : Int32) : f_X6_hasAnswer k p = 0 := by
  unfold f_X6_hasAnswer nm
  rw [show p.2.2.2.2.2.2.1 = 0 from h.2.2.2.2.1]
  exact wz k
theorem zAs (h : PZ p) (k : Int32) : f_X6_hasAsker k p = 0 := by
  unfold f_X6_hasAsker nm
  rw [show p.2.2.2.2.2.1 = 0 from h.2.2.2.1]
  exact wz k
theorem zSp (h : PZ p) (k : Int32) : f_X6_hasSpot k p = 0 := by
  unfold f_X6_hasSpot nm
  rw [show p.1 = 0 from h.1]
  exact wz k
theorem zPt (h : PZ p) : f_X10_pierTrouble p = 1 := by
  unfold f_X10_pierTrouble
  rw [if_pos (show p.1 = 0 from h.1)]
theorem zNt (h : PZ p) (k : Int32) : f_X10_numberTrouble k p = 1 := by
  unfold f_X10_numberTrouble
  dsimp only [nm]
  rw [zPt h, if_neg one_ne]
  rfl
theorem zAt (h : PZ p) (k : Int32) : f_X10_answerTrouble k p = 1 := by
  unfold f_X10_answerTrouble
  dsimp only [nm]
  rw [zAn h, if_pos rfl]
theorem zWt (h : PZ p) (a s f b : Int32) : f_X10_wishTrouble a s f b p = 1 := by
  unfold f_X10_wishTrouble
  dsimp only [nm]
  rw [zAt h, if_neg one_ne]
theorem zn_close (h : PZ p) (k1 : Int32) (x : TX10_x) : f_X10_close k1 x p = (-1, (1, x.2)) := by
  rw [f_X10_close, nm, nm, zNt h, nm, ref_n one_ne, if_neg one_ne]
theorem zn_wish (h : PZ p) (k1 k2 k3 k4 : Int32) (x : TX10_x) : f_X10_wish k1 k2 k3 k4 x p = some (-1, (1, x.2)) := by
  rw [f_X10_wish, nm, zWt h, nm, ref_n one_ne, if_neg one_ne]
theorem zn_hungerFor (h : PZ p) (k1 k2 k3 k4 : Int32) (x : TX10_x) : f_X10_hungerFor k1 k2 k3 k4 x p = some (-1, (1, x.2)) := by
  rw [f_X10_hungerFor, nm, zWt h, nm, ref_n one_ne, if_neg one_ne]
theorem zn_tangles (h : PZ p) (k1 k2 k3 k4 : Int32) (x : TX10_x) : f_X10_tangles k1 k2 k3 k4 x p = some (-1, (1, x.2)) := by
  rw [f_X10_tangles, nm, zAs h, if_pos rfl, f_X10_tangles_J54, f_X10_tangles_J55, if_pos rfl, f_X10_tangles_J68, nm, ref_n one_ne, if_neg one_ne]
theorem zn_linesJ (h : PZ p) (k1 k2 k3 k4 v : Int32) (x : TX10_x) : f_X10_lines_J35 k1 k2 k3 k4 x p v = some (-100, (1, x.2)) := by
  rw [f_X10_lines_J35, nm, zNt h, nm, ref_n one_ne, if_neg one_ne]
theorem zn_lines (h : PZ p) (k1 k2 k3 k4 : Int32) (x : TX10_x) : f_X10_lines k1 k2 k3 k4 x p = some (-100, (1, x.2)) := by
  simp only [f_X10_lines, f_X10_lines_J34, nm, zn_linesJ h, ite_self]
theorem zn_worthJ (h : PZ p) (k1 k2 k3 v : Int32) (x : TX10_x) : f_X10_worth_J34 k1 k2 k3 x p 1 v = some (-1, (1, x.2)) := by
  rw [f_X10_worth_J34, if_neg one_ne, f_X10_worth_J51, f_X10_worth_J53, nm, ref_n one_ne, if_neg one_ne]
theorem zn_worth (h : PZ p) (k1 k2 k3 : Int32) (x : TX10_x) : f_X10_worth k1 k2 k3 x p = some (-1, (1, x.2)) := by
  simp only [f_X10_worth, f_X10_worth_J33, nm, zAt h, zn_worthJ h, ite_self]
theorem zn_rests (h : PZ p) (k1 : Int32) (x : TX10_x) : f_X10_rests k1 x p = some (-1, (1, x.2)) := by
  rw [f_X10_rests, nm, nm, zNt h, nm, ref_n one_ne, if_neg one_ne]
theorem zn_rest (h : PZ p) (k1 : Int32) (x : TX10_x) : f_X10_rest k1 x p = some (-1, (1, x.2)) := by
  rw [f_X10_rest, nm, nm, zNt h, nm, ref_n one_ne, if_neg one_ne]
end NONE
