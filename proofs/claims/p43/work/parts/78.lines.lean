/-! the lines: a bait, a dark one, an asker, the pier -/
theorem w_hunger : wok tx_hunger = true := by decide
theorem w_reach : wok tx_reach = true := by decide
theorem w_spots : wok tx_spots = true := by decide
theorem w_deep : wok tx_deep = true := by decide
theorem w_from : wok tx_from = true := by decide
theorem w_to : wok tx_to = true := by decide
theorem w_at : wok tx_at = true := by decide
theorem w_depth : wok tx_depth = true := by decide
theorem w_likes : wok tx_likes = true := by decide
theorem w_worth : wok tx_worth = true := by decide
theorem w_fathoms : wok tx_fathoms = true := by decide
section LN
variable {T : Nat → Int32} {fed a v pl num wr : Int32} {n1 : Nat → Int64} {nb : Nat → Int32} {w : Int64} {e s N : Nat} {p : TX6_p} {q : TX11_q}
theorem line_fail {X : Option (Int32 × TX7_r × TX6_p)} {Y : Option (TX12_s × TX11_q)} {k ns : Int32} {z : Nat} {m' : TX12_s} {q' : TX11_q} (hx : ∃ P, X = some (0, RD T fed e z (v, n1, nb, ns, k, nI z), P)) (hk : 1 ≤ k.toInt ∧ k.toInt ≤ 6) (hz : z ≤ e) (hy : Y = some (m', q')) (hd : DEAD T a k z m') : Line T fed a e s X Y := by
  obtain ⟨P, hP⟩ := hx
  exact Or.inr ⟨k, z, v, n1, nb, ns, P, m', q', hk, hz, hP, hy, hd⟩
theorem line_x {X : Option (Int32 × TX7_r × TX6_p)} {Y : Option (TX12_s × TX11_q)} (h : Line T fed a e s X Y) : Line T fed a e s (X.bind (fun (o : Int32 × TX7_r × TX6_p) => if o.1 = (0 : Int32) then some ((0 : Int32), o.2.1, o.2.2) else some ((1 : Int32), o.2.1, o.2.2))) Y := by
  rcases h with ⟨s', v, n1, nb, N, pl, num, wr, w, p', q', h1, h2, h3, h4⟩ | ⟨k, z, v, n1, nb, ns, p', m', q', h1, h2, h3, h4⟩
  · exact Or.inl ⟨s', v, n1, nb, N, pl, num, wr, w, p', q', h1, h2, by rw [h3, Option.bind_some, if_neg one_ne], h4⟩
  · exact Or.inr ⟨k, z, v, n1, nb, ns, p', m', q', h1, h2, by rw [h3, Option.bind_some, if_pos rfl], h4⟩
theorem line_x2 {X : Option (Int32 × TX7_r × TX6_p)} {Y : Option (TX12_s × TX11_q)} (h : Line T fed a e s X Y) : Line T fed a e s (X.bind (fun (o : Int32 × TX7_r × TX6_p) => some (o.1, o.2.1, o.2.2))) Y := by
  rcases h with ⟨s', v, n1, nb, N, pl, num, wr, w, p', q', h1, h2, h3, h4⟩ | ⟨k, z, v, n1, nb, ns, p', m', q', h1, h2, h3, h4⟩
  · exact Or.inl ⟨s', v, n1, nb, N, pl, num, wr, w, p', q', h1, h2, by rw [h3, Option.bind_some], h4⟩
  · exact Or.inr ⟨k, z, v, n1, nb, ns, p', m', q', h1, h2, by rw [h3, Option.bind_some], h4⟩
theorem line_y {X : Option (Int32 × TX7_r × TX6_p)} {Y : Option (TX12_s × TX11_q)} (h : Line T fed a e s X Y) : Line T fed a e s X (Y.bind (fun (o : TX12_s × TX11_q) => some (o.1, o.2))) := by
  rcases h with ⟨s', v, n1, nb, N, pl, num, wr, w, p', q', h1, h2, h3, h4, h5⟩ | ⟨k, z, v, n1, nb, ns, p', m', q', h1, h2, h3, h4, h5⟩
  · exact Or.inl ⟨s', v, n1, nb, N, pl, num, wr, w, p', q', h1, h2, h3, by rw [h4, Option.bind_some], h5⟩
  · exact Or.inr ⟨k, z, v, n1, nb, ns, p', m', q', h1, h2, h3, by rw [h4, Option.bind_some], h5⟩
theorem line_lt {s1 : Nat} {X : Option (Int32 × TX7_r × TX6_p)} {Y : Option (TX12_s × TX11_q)} (hs : s ≤ s1) (h : Line T fed a e s1 X Y) : Line T fed a e s X Y := by
  rcases h with ⟨s', v, n1, nb, N, pl, num, wr, w, p', q', h1, h2⟩ | h
  · exact Or.inl ⟨s', v, n1, nb, N, pl, num, wr, w, p', q', by omega, h2⟩
  · exact Or.inr h
theorem RD_val {tl : (Nat → Int64) × (Nat → Int32) × Int32 × Int32 × Int32} : (RD T fed e s (v, tl)).2.2.2.2.2.2.1 = v := rfl
theorem MD_so : ¬ (MD T a e s num 0 wr w).2.2.2.2.1 = 5 := mso_ne5
theorem le_i {x y : Int32} (h : x ≤ y) : x.toInt ≤ y.toInt := (fa_le x y).mp h
theorem head_1 {N bi : Nat} (hh : PRh p q N bi) (h0 : ¬ qSp q = 0) : 2 ≤ (qSp q).toInt ∧ (qSp q).toInt ≤ 8 ∧ 1 ≤ (qDe q).toInt ∧ (qDe q).toInt ≤ 9 ∧ pCf p = qFr q ∧ pCt p = qTo q ∧ 0 ≤ (qFr q).toInt ∧ (qFr q).toInt ≤ (qTo q).toInt ∧ (qTo q).toInt ≤ 60 := by
  obtain ⟨-, -, -, -, -, d6⟩ := hh
  rcases d6 with d6 | d6
  · exact absurd d6.1 h0
  · exact d6
theorem PRw.up {an ba ba' : Nat} (h : PRw p q an ba) (hb : ba ≤ ba') : PRw p q an ba' := by
  intro j hj
  have := h j hj
  exact ⟨this.1, this.2.1, this.2.2.1, this.2.2.2.1, ⟨this.2.2.2.2.1.1, this.2.2.2.2.1.2.1, by have := this.2.2.2.2.1.2.2; omega⟩, this.2.2.2.2.2⟩
theorem PRb.up {bi ba ba' : Nat} (h : PRb p q bi ba) (hb : ba ≤ ba') : PRb p q bi ba' := by
  intro j hj
  have := h j hj
  exact ⟨this.1, this.2.1, this.2.2.1, ⟨this.2.2.2.1.1, by have := this.2.2.2.1.2; omega⟩, this.2.2.2.2⟩
theorem l_bait (hT : ∀ j, byt (T j)) (he : e ≤ 900) (hs : s ≤ e) (hk : tkk T e s = 1) (hR : PR p q n1 nb N) : Line T fed a e s (if (4 : Int32) ≤ p.2.2.2.2.1 then f_X7_readLine_J54 (RD T fed e s (v, n1, nb, nI N, 0, pl)) p 5 else f_X7_readLine_J54 (RD T fed e s (v, n1, nb, nI N, 0, pl)) p 0) (f_X12_readBait (MD T a e s num 0 wr w) q) := by
  obtain ⟨ba, as, an, bi, hc, hh, hn, ha, hw, hb⟩ := hR
  obtain ⟨c1, c2, c3, c4, c5, c6, c7, c8, c9, c10, c11, c12, c13, c14⟩ := hc
  rw [show p.2.2.2.2.1 = nI ba from c1, f_X12_readBait, show q.2.2.2.2.1 = nI ba from c2]
  by_cases h4 : ba = 4
  · subst h4
    obtain ⟨m', g1, g2⟩ := @m_begin5 T a num wr 4 w e s q
    rw [if_pos (show (4 : Int32) ≤ nI 4 from by decide), f_X7_readLine_J54, x_openk (by decide), Option.bind_some, if_pos rfl, show nI 4 = (4 : Int32) from rfl, g1, Option.bind_some, d_readFresh c14 (by omega) g2.2.2.1, Option.bind_some, if_pos g2.2.2.1]
    exact line_fail ⟨_, rfl⟩ (by decide) hs rfl g2
  · have hne : ¬ nI ba = (4 : Int32) := fun z => h4 ((nI_eq (b := 4) (by omega) (by omega)).mp z)
    rw [if_neg (show ¬ (4 : Int32) ≤ nI ba from nI_ge (b := 4) (by omega) (by omega)), f_X7_readLine_J54]
    by_cases h0 : qSp q = 0
    · obtain ⟨m', g1, g2⟩ := @m_begin6 T a num wr (nI ba) 4 w e s q hne h0
      rw [x_open0 (hh.1.trans h0), Option.bind_some, if_pos rfl, g1, Option.bind_some, d_readFresh c14 (by omega) g2.2.2.1, Option.bind_some, if_pos g2.2.2.1]
      exact line_fail ⟨_, rfl⟩ (by decide) hs rfl g2
    · have hl := nxt_lt hk
      obtain ⟨num1, w1, g1, g2⟩ := m_begin (a := a) (num := num) (wr := wr) (w := w) hT he hs (by rw [hk]; decide) hne h0
      rw [x_open1 he hs (fun z => h0 (hh.1.symm.trans z)), Option.bind_some, if_neg one_ne, g1, Option.bind_some]
      refine line_lt (Nat.le_of_lt hl.1) (line_x ?_)
      rw [f_X7_readBait, show p.2.2.2.2.1 = nI ba from c1]
      rcases p_fresh (fed := fed) (a := a) (v := v) (bt := nI ba) (fa := 0) (pl := pl) (wr := wr) hT he hl.2 g2 c14 (by omega) hn.1 with ⟨c, t1, t2, t3, t4, num2, w2, t5, t6⟩ | ⟨k, hkk, t4, m', x, t5, t6⟩
      · rw [t4, Option.bind_some, if_neg one_ne, t5, Option.bind_some, if_neg MD_so, m_names c14 (by omega), Option.bind_some]
        refine Or.inl ⟨_, v, _, _, N + 1, pl, num2, wr, w2, _, _, t1, t2, rfl, rfl, t6, ba + 1, as, an, bi, ⟨?_, ?_, by omega, c4, c5, c6, c7, c8, c9, c10, c11, c12, by omega, rfl⟩, ?_, nm_add hn (by omega) (Or.inl ⟨rfl, rfl, by rw [nI_toInt (by omega)]; omega, by rw [nI_toInt (by omega)]; omega⟩), ha, PRw.up (ba := ba) hw (by omega), PRb.up (ba := ba) hb (by omega)⟩
        · show nI ba + 1 = _
          rw [nIs]
        · show q.2.2.2.2.1 + 1 = _
          rw [show q.2.2.2.2.1 = nI ba from c2, nIs]
        · obtain ⟨d1, d2, d3, d4, d5, d6⟩ := hh
          refine ⟨d1, d2, d3, d4, d5, ?_⟩
          rcases d6 with d6 | d6
          · exact absurd d6.1 h0
          · exact Or.inr d6
      · rw [t4, Option.bind_some, if_pos rfl, t5, Option.bind_some, if_pos t6.2.2.1]
        exact line_fail ⟨_, rfl⟩ (by rcases hkk with rfl | rfl <;> decide) hl.2 rfl t6
theorem l_dark (hT : ∀ j, byt (T j)) (he : e ≤ 900) (hs : s ≤ e) (hk : tkk T e s = 1) (hR : PR p q n1 nb N) : Line T fed a e s (if p.2.2.2.2.2.2.2.2.1 = (-1 : Int32) then f_X7_readLine_J187 (RD T fed e s (v, n1, nb, nI N, 0, pl)) p 0 else f_X7_readLine_J187 (RD T fed e s (v, n1, nb, nI N, 0, pl)) p 3) (f_X12_readDark (MD T a e s num 0 wr w) q) := by
  obtain ⟨ba, as, an, bi, hc, hh, hn, ha, hw, hb⟩ := hR
  have hh0 := hh
  obtain ⟨d1, d2, d3, d4, d5, d6⟩ := hh
  rw [show p.2.2.2.2.2.2.2.2.1 = qDk q from d3, f_X12_readDark]
  by_cases h1 : qDk q = -1
  · rw [if_pos h1, if_pos (show q.2.2.2.2.2.2.2.2.1 = -1 from h1), f_X7_readLine_J187, f_X12_readDark_J16]
    by_cases h0 : qSp q = 0
    · obtain ⟨m', g1, g2⟩ := @m_begin6 T a num wr 0 1 w e s q (by decide) h0
      rw [x_open0 (d1.trans h0), Option.bind_some, if_pos rfl, g1, Option.bind_some, d_readPart g2.2.2.1, Option.bind_some, if_pos g2.2.2.1]
      exact line_fail ⟨_, rfl⟩ (by decide) hs rfl g2
    · have hl := nxt_lt hk
      obtain ⟨num1, w1, g1, g2⟩ := m_begin (a := a) (num := num) (wr := wr) (w := w) (x := 0) (y := 1) hT he hs (by rw [hk]; decide) (by decide) h0
      rw [x_open1 he hs (fun z => h0 (d1.symm.trans z)), Option.bind_some, if_neg one_ne, g1, Option.bind_some]
      refine line_lt (Nat.le_of_lt hl.1) (line_x ?_)
      rw [f_X7_readDark]
      rcases c_part (fed := fed) (a := a) (v := v) (ns := nI N) (fa := 0) (pl := pl) (n1 := n1) (nb := nb) (wr := wr) (lo := 0) (hi := 99) w_hunger hT he hl.2 g2 with ⟨s2, x, t1, t2, t4, t5, t6, num2, w2, t8, t9⟩ | ⟨k, z, hkk, hz, t6, m', y, t8, t9⟩
      · rw [t6, t8, Option.bind_some, if_neg MD_so]
        have hq := head_1 hh0 h0
        have x0 := le_i t4
        have x1 := le_i t5
        rw [ltv_0] at x0
        rw [ltv_99] at x1
        refine Or.inl ⟨s2, x, n1, nb, N, pl, num2, wr, w2, _, _, t1, t2, rfl, rfl, t9, ba, as, an, bi, hc, ⟨d1, d2, rfl, ⟨by show -1 ≤ x.toInt; omega, x1⟩, fun _ => by show ¬ x = -1; rw [fa_eq, ltv_m1]; omega, Or.inr hq⟩, hn, ha, hw, hb⟩
      · rw [t8, Option.bind_some, if_pos t9.2.2.1]
        exact line_fail (t6 _ _ _) hkk hz rfl t9
  · have hd := @m_flaw T a 3 num 0 wr w e s
    rw [if_neg h1, if_neg (show ¬ q.2.2.2.2.2.2.2.2.1 = -1 from h1), f_X7_readLine_J187, x_openk (by decide), Option.bind_some, if_pos rfl, nm, f_X12_readDark_J16, d_lineBegins hd.2.2.1, Option.bind_some, d_readPart hd.2.2.1, Option.bind_some, if_pos hd.2.2.1]
    exact line_fail ⟨_, rfl⟩ (by decide) hs rfl hd
theorem l_asker (hT : ∀ j, byt (T j)) (he : e ≤ 900) (hs : s ≤ e) (hk : tkk T e s = 1) (hR : PR p q n1 nb N) : Line T fed a e s (if (5 : Int32) ≤ p.2.2.2.2.2.1 then f_X7_readLine_J98 (RD T fed e s (v, n1, nb, nI N, 0, pl)) p 5 else f_X7_readLine_J98 (RD T fed e s (v, n1, nb, nI N, 0, pl)) p 0) (f_X12_readAsker (MD T a e s num 0 wr w) q) := by
  obtain ⟨ba, as, an, bi, hc, hh, hn, ha, hw, hb⟩ := hR
  obtain ⟨c1, c2, c3, c4, c5, c6, c7, c8, c9, c10, c11, c12, c13, c14⟩ := hc
  rw [show p.2.2.2.2.2.1 = nI as from c4, f_X12_readAsker, show q.2.2.2.2.2.1 = nI as from c5]
  by_cases h4 : as = 5
  · subst h4
    obtain ⟨m', g1, g2⟩ := @m_begin5 T a num wr 5 w e s q
    rw [if_pos (show (5 : Int32) ≤ nI 5 from by decide), f_X7_readLine_J98, x_openk (by decide), Option.bind_some, if_pos rfl, show nI 5 = (5 : Int32) from rfl, g1, Option.bind_some, d_readFresh c14 (by omega) g2.2.2.1, Option.bind_some, d_readPart g2.2.2.1, Option.bind_some, if_pos g2.2.2.1]
    exact line_fail ⟨_, rfl⟩ (by decide) hs rfl g2
  · have hne : ¬ nI as = (5 : Int32) := fun z => h4 ((nI_eq (b := 5) (by omega) (by omega)).mp z)
    rw [if_neg (show ¬ (5 : Int32) ≤ nI as from nI_ge (b := 5) (by omega) (by omega)), f_X7_readLine_J98]
    by_cases h0 : qSp q = 0
    · obtain ⟨m', g1, g2⟩ := @m_begin6 T a num wr (nI as) 5 w e s q hne h0
      rw [x_open0 (hh.1.trans h0), Option.bind_some, if_pos rfl, g1, Option.bind_some, d_readFresh c14 (by omega) g2.2.2.1, Option.bind_some, d_readPart g2.2.2.1, Option.bind_some, if_pos g2.2.2.1]
      exact line_fail ⟨_, rfl⟩ (by decide) hs rfl g2
    · have hl := nxt_lt hk
      obtain ⟨num1, w1, g1, g2⟩ := m_begin (a := a) (num := num) (wr := wr) (w := w) hT he hs (by rw [hk]; decide) hne h0
      rw [x_open1 he hs (fun z => h0 (hh.1.symm.trans z)), Option.bind_some, if_neg one_ne, g1, Option.bind_some]
      refine line_lt (Nat.le_of_lt hl.1) (line_x ?_)
      rw [f_X7_readAsker, show p.2.2.2.2.2.1 = nI as from c4]
      rcases p_fresh (fed := fed) (a := a) (v := v) (bt := -1) (fa := 0) (pl := pl) (wr := wr) hT he hl.2 g2 c14 (by omega) hn.1 with ⟨c, t1, t2, t3, t4, num2, w2, t5, t6⟩ | ⟨k, hkk, t4, m', x, t5, t6⟩
      · rw [t4, Option.bind_some, if_neg one_ne, t5, Option.bind_some]
        refine line_lt (Nat.le_of_lt t1) ?_
        rcases c_part (fed := fed) (a := a) (v := v) (ns := nI (N + 1)) (fa := 0) (pl := pl) (n1 := vp_updL n1 N c) (nb := upd nb N (-1)) (wr := wr) (lo := 0) (hi := 3) w_reach hT he t2 t6 with ⟨s2, x, y1, y2, y4, y5, y6, num3, w3, y8, y9⟩ | ⟨k, z, hkk, hz, y6, m', y, y8, y9⟩
        · rw [y6, gA_in (vin (show as < 5 by omega) (by omega)), y8, Option.bind_some, if_neg MD_so, m_names c14 (by omega), Option.bind_some, show (addN q c 1 (nI as) N).2.2.2.2.2.1 = nI as from c5, gA_in (vin (show as < 5 by omega) (by omega)), nI_clamp (by omega), nIs]
          have x0 := le_i y4
          have x1 := le_i y5
          rw [ltv_0] at x0
          rw [ltv_3] at x1
          refine Or.inl ⟨s2, x, _, _, N + 1, pl, num3, wr, w3, _, _, y1, y2, rfl, rfl, y9, ba, as + 1, an, bi, ⟨c1, c2, c3, rfl, rfl, by omega, c7, c8, c9, c10, c11, c12, by omega, rfl⟩, ⟨hh.1, hh.2.1, hh.2.2.1, hh.2.2.2.1, hh.2.2.2.2.1, Or.inr (head_1 hh h0)⟩, nm_add hn (Nat.le_refl _) (Or.inr ⟨by decide, rfl⟩), ?_, hw, hb⟩
          intro j hj
          show upd (pRe p) as x j = upd (qRe q) as x j ∧ 0 ≤ (upd (qRe q) as x j).toInt ∧ (upd (qRe q) as x j).toInt ≤ 3
          by_cases ej : j = as
          · subst ej
            rw [pk_us, pk_us]
            exact ⟨rfl, x0, x1⟩
          · rw [pk_un ej, pk_un ej]
            exact ha j (by omega)
        · rw [y8, Option.bind_some, if_pos y9.2.2.1]
          exact line_fail (y6 _ _ _) hkk hz rfl y9
      · rw [t4, Option.bind_some, if_pos rfl, t5, Option.bind_some, d_readPart t6.2.2.1, Option.bind_some, if_pos t6.2.2.1]
        exact line_fail ⟨_, rfl⟩ (by rcases hkk with rfl | rfl <;> decide) hl.2 rfl t6
theorem l_pier (hT : ∀ j, byt (T j)) (he : e ≤ 900) (hs : s ≤ e) (hk : tkk T e s = 1) (hR : PR p q n1 nb N) : Line T fed a e s (if p.1 = (0 : Int32) then f_X7_readPier (RD T fed e s (v, n1, nb, nI N, 0, pl)) p else nm (f_X7_fail (3 : Int32) (RD T fed e s (v, n1, nb, nI N, 0, pl))) (fun (o26 : TX7_r) => some ((0 : Int32), o26, p))) (f_X12_readPier (MD T a e s num 0 wr w) q) := by
  obtain ⟨ba, as, an, bi, hc, hh, hn, ha, hw, hb⟩ := hR
  have hh0 := hh
  obtain ⟨d1, d2, d3, d4, d5, d6⟩ := hh
  obtain ⟨c1, c2, c3, c4, c5, c6, c7, c8, c9, c10, c11, c12, c13, c14⟩ := hc
  rw [show p.1 = qSp q from d1, f_X12_readPier]
  by_cases h0 : qSp q = 0
  · have hz : N = 0 ∧ bi = 0 := by
      rcases d6 with d6 | d6
      · exact ⟨d6.2.1, d6.2.2.1⟩
      · rw [h0, ltv_0] at d6
        omega
    obtain ⟨hz1, hz2⟩ := hz
    have hl := nxt_lt hk
    obtain ⟨num1, w1, g1, g2⟩ := m_adv (a := a) (num := num) (fa := 0) (wr := wr) (w := w) hT he hs (by rw [hk]; decide)
    rw [if_pos h0, if_pos (show q.1 ≤ 0 from by rw [show q.1 = 0 from h0]; decide), f_X7_readPier, x_adv he hs, Option.bind_some, f_X12_readPier_J15, g1, Option.bind_some]
    refine line_lt (Nat.le_of_lt hl.1) ?_
    rcases c_part (fed := fed) (a := a) (v := v) (ns := nI N) (fa := 0) (pl := pl) (n1 := n1) (nb := nb) (wr := wr) (lo := 2) (hi := 8) w_spots hT he hl.2 g2 with ⟨s2, x, t1, t2, t4, t5, t6, num2, w2, t8, t9⟩ | ⟨k, z, hkk, hz, t6, m', y, t8, t9⟩
    · rw [t6, t8, Option.bind_some]
      dsimp only
      refine line_lt (Nat.le_of_lt t1) ?_
      rcases c_part (fed := fed) (a := a) (v := x) (ns := nI N) (fa := 0) (pl := pl) (n1 := n1) (nb := nb) (wr := wr) (lo := 1) (hi := 9) w_deep hT he t2 t9 with ⟨s3, x3, u1, u2, u4, u5, u6, num3, w3, u8, u9⟩ | ⟨k, z, hkk, hz, u6, m', y, u8, u9⟩
      · rw [u6, u8, Option.bind_some]
        dsimp only
        refine line_lt (Nat.le_of_lt u1) ?_
        rcases c_part (fed := fed) (a := a) (v := x3) (ns := nI N) (fa := 0) (pl := pl) (n1 := n1) (nb := nb) (wr := wr) (lo := 0) (hi := 60) w_from hT he u2 u9 with ⟨s4, x4, v1, v2, v4, v5, v6, num4, w4, v8, v9⟩ | ⟨k, z, hkk, hz, v6, m', y, v8, v9⟩
        · rw [v6, v8, Option.bind_some]
          dsimp only
          refine line_lt (Nat.le_of_lt v1) ?_
          rw [RD_val, RD_val, RD_val]
          rcases c_part (fed := fed) (a := a) (v := x4) (ns := nI N) (fa := 0) (pl := pl) (n1 := n1) (nb := nb) (wr := wr) (lo := x4) (hi := 60) w_to hT he v2 v9 with ⟨s5, x5, y1, y2, y4, y5, y6, num5, w5, y8, y9⟩ | ⟨k, z, hkk, hz, y6, m', y, y8, y9⟩
          · rw [y6, y8, Option.bind_some, if_neg MD_so]
            have e1 := le_i t4
            have e2 := le_i t5
            have e3 := le_i u4
            have e4 := le_i u5
            have e5 := le_i v4
            have e6 := le_i v5
            have e7 := le_i y4
            have e8 := le_i y5
            rw [ltv_2] at e1
            rw [ltv_8] at e2
            rw [ltv_1] at e3
            rw [ltv_9] at e4
            rw [ltv_0] at e5
            rw [ltv_60] at e6 e8
            refine Or.inl ⟨s5, x5, n1, nb, N, pl, num5, wr, w5, _, _, y1, y2, rfl, rfl, y9, ba, as, an, bi, ⟨c1, c2, c3, c4, c5, c6, c7, c8, c9, c10, c11, c12, c13, c14⟩, ⟨rfl, rfl, d3, d4, d5, Or.inr ⟨e1, e2, e3, e4, rfl, rfl, e5, e7, e8⟩⟩, hn, ha, fun j hj => absurd hj (by omega), fun j hj => absurd hj (by omega)⟩
          · rw [y8, Option.bind_some, if_pos y9.2.2.1]
            exact line_fail (y6 _ _ _) hkk hz rfl y9
        · rw [v8, Option.bind_some, d_readPart v9.2.2.1, Option.bind_some, if_pos v9.2.2.1]
          exact line_fail (v6 _ _ _) hkk hz rfl v9
      · rw [u8, Option.bind_some, d_readPart u9.2.2.1, Option.bind_some, d_readPart u9.2.2.1, Option.bind_some, if_pos u9.2.2.1]
        exact line_fail (u6 _ _ _) hkk hz rfl u9
    · rw [t8, Option.bind_some, d_readPart t9.2.2.1, Option.bind_some, d_readPart t9.2.2.1, Option.bind_some, d_readPart t9.2.2.1, Option.bind_some, if_pos t9.2.2.1]
      exact line_fail (t6 _ _ _) hkk hz rfl t9
  · have hd := @m_flaw T a 3 num 0 wr w e s
    have hq : 2 ≤ q.1.toInt := (head_1 hh0 h0).1
    rw [if_neg h0, if_neg (show ¬ q.1 ≤ 0 from by rw [fa_le, ltv_0]; omega), nm, x_fail, nm, f_X12_readPier_J15, m_dead hd.2.2.1, Option.bind_some, d_readPart hd.2.2.1, Option.bind_some, d_readPart hd.2.2.1, Option.bind_some, d_readPart hd.2.2.1, Option.bind_some, d_readPart hd.2.2.1, Option.bind_some, if_pos hd.2.2.1]
    exact line_fail ⟨_, rfl⟩ (by decide) hs rfl hd
end LN
