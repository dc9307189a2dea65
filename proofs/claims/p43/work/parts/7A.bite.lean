/-! the line: a bite -/
section LN
variable {T : Nat → Int32} {fed a v pl num wr : Int32} {n1 : Nat → Int64} {nb : Nat → Int32} {w : Int64} {e s N : Nat} {p : TX6_p} {q : TX11_q}
theorem d_bite107 {o51 o67 o74 : Int32 × TX12_s} {o82 : Int32} {m : TX12_s} (h : m.2.2.2.2.1 = 5) : f_X12_readBite_J107 q o51 o67 o74 o82 m = some (m, q) := by
  rw [f_X12_readBite_J107, m_dead h, Option.bind_some, if_pos h]
theorem d_yes {o51 o67 : Int32 × TX12_s} {o : Int32} {m : TX12_s} (h : m.2.2.2.2.1 = 5) : ((f_X12_isWord tx_yes (o, m).2).bind fun (o82 : Int32) => (if o82 = (0 : Int32) then ((f_X12_isWord tx_no (o, m).2).bind fun (o96 : Int32) => (if o96 = (0 : Int32) then (nm (f_X12_flaw (1 : Int32) (o, m).2) fun (o104 : TX12_s) => (f_X12_readBite_J107 q o51 o67 (o, m) o82 o104)) else (f_X12_readBite_J107 q o51 o67 (o, m) o82 (o, m).2))) else (f_X12_readBite_J107 q o51 o67 (o, m) o82 (o, m).2))) = some (m, q) := by
  dsimp only
  rw [d_isWord h, d_isWord h, Option.bind_some, if_pos rfl, Option.bind_some, if_pos rfl, nm, d_flaw h, d_bite107 h]
theorem d_bite34 {m : TX12_s} (hr : qnames q = nI N) (hN : N ≤ 15) (h : m.2.2.2.2.1 = 5) : f_X12_readBite_J34 q m = some (m, q) := by
  rw [f_X12_readBite_J34, d_lineBegins h, Option.bind_some, d_readWhole h, Option.bind_some]
  dsimp only
  rw [d_readPart h, Option.bind_some]
  dsimp only
  rw [d_readPartBait hr hN h, Option.bind_some]
  exact d_yes h
theorem yesOf_r : yesOf T e s = -1 ∨ (tkk T e s = 1 ∧ (yesOf T e s = 0 ∨ yesOf T e s = 1)) := by
  unfold yesOf
  by_cases c1 : isw T e s tx_yes = true
  · rw [if_pos c1]; exact Or.inr ⟨isw_kind c1, Or.inr rfl⟩
  · rw [if_neg c1]
    by_cases c2 : isw T e s tx_no = true
    · rw [if_pos c2]; exact Or.inr ⟨isw_kind c2, Or.inl rfl⟩
    · rw [if_neg c2]; exact Or.inl rfl
/-- yes or no, as the reference looks it up -/
theorem m_yes {o51 o67 : Int32 × TX12_s} {o : Int32} (hm : MW T e s num w) : ((f_X12_isWord tx_yes (o, MD T a e s num 0 wr w).2).bind fun (o82 : Int32) => (if o82 = (0 : Int32) then ((f_X12_isWord tx_no (o, MD T a e s num 0 wr w).2).bind fun (o96 : Int32) => (if o96 = (0 : Int32) then (nm (f_X12_flaw (1 : Int32) (o, MD T a e s num 0 wr w).2) fun (o104 : TX12_s) => (f_X12_readBite_J107 q o51 o67 (o, MD T a e s num 0 wr w) o82 o104)) else (f_X12_readBite_J107 q o51 o67 (o, MD T a e s num 0 wr w) o82 (o, MD T a e s num 0 wr w).2))) else (f_X12_readBite_J107 q o51 o67 (o, MD T a e s num 0 wr w) o82 (o, MD T a e s num 0 wr w).2))) = if yesOf T e s = -1 then f_X12_readBite_J107 q o51 o67 (o, MD T a e s num 0 wr w) 0 (f_X12_flaw 1 (MD T a e s num 0 wr w)) else f_X12_readBite_J107 q o51 o67 (o, MD T a e s num 0 wr w) (yesOf T e s) (MD T a e s num 0 wr w) := by
  dsimp only
  rw [m_isw w_yes hm, m_isw w_no hm]
  simp only [Option.bind_some, b01]
  unfold yesOf
  cases isw T e s tx_yes <;> cases isw T e s tx_no <;> simp [nm]
theorem l_bite (hT : ∀ j, byt (T j)) (he : e ≤ 900) (hs : s ≤ e) (hk : tkk T e s = 1) (hR : PR p q n1 nb N) : Line T fed a e s (if p.2.2.2.2.2.2.2.2.1 = (-1 : Int32) then f_X7_readLine_J230 (RD T fed e s (v, n1, nb, nI N, 0, pl)) p 6 else f_X7_readLine_J230 (RD T fed e s (v, n1, nb, nI N, 0, pl)) p 0) (f_X12_readBite (MD T a e s num 0 wr w) q) := by
  obtain ⟨ba, as, an, bi, hc, hh, hn, ha, hw, hb⟩ := hR
  obtain ⟨c1, c2, c3, c4, c5, c6, c7, c8, c9, c10, c11, c12, c13, c14⟩ := hc
  have hN : N ≤ 15 := by omega
  rw [f_X7_readLine_J230, f_X7_readLine_J230, show p.2.2.2.2.2.2.2.1 = nI bi from c10, show p.2.2.2.2.2.2.2.2.1 = qDk q from hh.2.2.1, f_X12_readBite, show q.2.2.2.2.2.2.2.1 = nI bi from c11]
  by_cases h6 : bi = 6
  · subst h6
    have hd := @m_flaw T a 5 num 0 wr w e s
    rw [if_pos (show (6 : Int32) ≤ nI 6 from by decide), if_pos (show (6 : Int32) ≤ nI 6 from by decide), ite_self, f_X7_readLine_J247, x_openk (by decide), Option.bind_some, if_pos rfl, if_pos (show nI 6 = (6 : Int32) from rfl), nm, f_X12_readBite_J17, nm, d_flaw hd.2.2.1, ite_self, d_bite34 c14 hN hd.2.2.1]
    exact line_fail ⟨_, rfl⟩ (by decide) hs rfl hd
  · rw [if_neg (show ¬ (6 : Int32) ≤ nI bi from nI_ge (b := 6) (by omega) (by omega)), if_neg (show ¬ (6 : Int32) ≤ nI bi from nI_ge (b := 6) (by omega) (by omega)), if_neg (show ¬ nI bi = (6 : Int32) from fun z => h6 ((nI_eq (b := 6) (by omega) (by omega)).mp z)), f_X12_readBite_J17]
    by_cases h1 : qDk q = -1
    · have hd := @m_flaw T a 6 num 0 wr w e s
      rw [if_pos h1, f_X7_readLine_J247, x_openk (by decide), Option.bind_some, if_pos rfl, if_pos (show q.2.2.2.2.2.2.2.2.1 = -1 from h1), nm, d_bite34 c14 hN hd.2.2.1]
      exact line_fail ⟨_, rfl⟩ (by decide) hs rfl hd
    · have h0 : ¬ qSp q = 0 := by
        obtain ⟨-, -, -, -, -, d6⟩ := hh
        rcases d6 with d6 | d6
        · exact absurd d6.2.2.2 h1
        · intro z
          rw [z, ltv_0] at d6
          omega
      have hq := head_1 hh h0
      have hl := nxt_lt hk
      obtain ⟨num1, w1, g1, g2⟩ := m_begin (a := a) (num := num) (wr := wr) (w := w) (x := 0) (y := 1) hT he hs (by rw [hk]; decide) (by decide) h0
      rw [if_neg h1, if_neg (show ¬ q.2.2.2.2.2.2.2.2.1 = -1 from h1), f_X7_readLine_J247, x_open1 he hs (fun z => h0 (hh.1.symm.trans z)), Option.bind_some, if_neg one_ne, f_X12_readBite_J34, g1, Option.bind_some]
      refine line_lt (Nat.le_of_lt hl.1) (line_x ?_)
      rw [f_X7_readBite, show p.2.2.2.2.2.2.2.1 = nI bi from c10, show p.1 = q.1 from hh.1, show p.2.1 = q.2.1 from hh.2.1]
      rcases p_whole (lo := 0) (hi := q.1 - 1) (fed := fed) (a := a) (v := v) (ns := nI N) (fa := 0) (pl := pl) (n1 := n1) (nb := nb) (wr := wr) hT he hl.2 g2 with ⟨t1, t2, x, t3, t4, t5, num2, w2, t6, t7⟩ | ⟨k, hkk, t5, m', x, t6, t7⟩
      · rw [t5, Option.bind_some, if_neg one_ne, t6, Option.bind_some]
        dsimp only
        refine line_lt (Nat.le_of_lt t1) ?_
        generalize nxt T e (nxt T e s) = s1 at t1 t2 t7
        rcases c_part (fed := fed) (a := a) (v := x) (ns := nI N) (fa := 0) (pl := pl) (n1 := n1) (nb := nb) (wr := wr) (lo := 1) (hi := q.2.1) w_fathoms hT he t2 t7 with ⟨s2, x2, a1, a2, a4, a5, a6, num4, w4, a8, a9⟩ | ⟨k, z, hkk, hz, a6, m', y, a8, a9⟩
        · rw [a6, a8, Option.bind_some]
          dsimp only
          refine line_lt (Nat.le_of_lt a1) ?_
          rcases c_bait (fed := fed) (a := a) (v := x2) (M := N) (fa := 0) (pl := pl) (n1 := n1) (nb := nb) (wr := wr) w_bait hT he a2 a9 c14 hN hn.1 (Or.inl rfl) with ⟨s3, x3, f1, f2, f3, f6, num5, w5, f8, f9⟩ | ⟨k, z, hkk, hz, f6, m', y, f8, f9⟩
          · rw [f6, f8, Option.bind_some, m_yes f9, nm, gA_in (vin (show bi < 6 by omega) (by omega))]
            dsimp only
            rw [RD_val, RD_val, RD_val, x_yes he f2]
            refine line_lt (Nat.le_of_lt f1) ?_
            rcases @yesOf_r T e s3 with hy | ⟨hy, hy2⟩
            · have hd := @m_flaw T a 1 num5 0 wr w5 e s3
              rw [if_pos hy, Option.bind_some, if_pos rfl, if_pos hy, d_bite107 hd.2.2.1]
              exact line_fail ⟨_, rfl⟩ (by decide) f2 rfl hd
            · have hyn : ¬ yesOf T e s3 = -1 := by rcases hy2 with h | h <;> rw [h] <;> decide
              obtain ⟨num6, w6, y1, y2⟩ := m_adv (a := a) (num := num5) (fa := 0) (wr := wr) (w := w5) hT he f2 (by rw [hy]; decide)
              have hl3 := nxt_lt hy
              rw [if_neg hyn, Option.bind_some, if_neg one_ne, if_neg hyn, f_X12_readBite_J107, y1, Option.bind_some, if_neg MD_so, show q.2.2.2.2.2.2.2.1 = nI bi from c11, gA_in (vin (show bi < 6 by omega) (by omega)), gA_in (vin (show bi < 6 by omega) (by omega)), gA_in (vin (show bi < 6 by omega) (by omega))]
              dsimp only
              rw [RD_val]
              have key : (if yesOf T e s3 = 1 then f_X7_readBite_J115 p (f_X10_question x x2 x3) (1, RD T fed e (nxt T e s3) (yesOf T e s3, n1, nb, nI N, 0, pl)) 1 else f_X7_readBite_J115 p (f_X10_question x x2 x3) (1, RD T fed e (nxt T e s3) (yesOf T e s3, n1, nb, nI N, 0, pl)) 0) = f_X7_readBite_J115 p (f_X10_question x x2 x3) (1, RD T fed e (nxt T e s3) (yesOf T e s3, n1, nb, nI N, 0, pl)) (yesOf T e s3) := by
                rcases hy2 with h | h <;> rw [h] <;> rfl
              have key2 : ∀ A B C D, (if yesOf T e s3 = 0 then f_X12_readBite_J192 q A B C D 0 else f_X12_readBite_J192 q A B C D 1) = f_X12_readBite_J192 q A B C D (yesOf T e s3) := by
                intro A B C D
                rcases hy2 with h | h <;> rw [h] <;> rfl
              have key3 : vp_nar .boolean (yesOf T e s3) = yesOf T e s3 := by
                rcases hy2 with h | h <;> rw [h] <;> rfl
              rw [key, key2, f_X7_readBite_J115, f_X12_readBite_J192, show p.2.2.2.2.2.2.2.1 = nI bi from c10, show q.2.2.2.2.2.2.2.1 = nI bi from c11, gA_in (vin (show bi < 6 by omega) (by omega)), gA_in (vin (show bi < 6 by omega) (by omega)), nI_clamp (by omega), nIs, key3]
              have e2 := le_i t3
              have e3 := le_i t4
              have e4 := le_i a4
              have e5 := le_i a5
              rw [ltv_0] at e2
              rw [ltv_1] at e4
              rw [sub_1 hq.1] at e3
              obtain ⟨jb, jb1, jb2, jb3⟩ := f3
              have hjb := hn.2 jb jb1 jb2
              rw [← jb3] at hjb
              refine Or.inl ⟨_, _, n1, nb, N, pl, num6, wr, w6, _, _, hl3.1, hl3.2, rfl, rfl, y2, ba, as, an, bi + 1, ⟨c1, c2, c3, c4, c5, c6, c7, c8, c9, rfl, rfl, by omega, c13, c14⟩, ⟨hh.1, hh.2.1, hh.2.2.1, hh.2.2.2.1, fun _ => h1, Or.inr hq⟩, hn, ha, hw, ?_⟩
              intro j hj
              show upd (pBt p) bi (f_X10_question x x2 x3) j = f_X10_question (upd (qBs q) bi x j) (upd (qBd q) bi x2 j) (upd (qBb q) bi x3 j) ∧ (0 ≤ (upd (qBs q) bi x j).toInt ∧ (upd (qBs q) bi x j).toInt < (qSp q).toInt) ∧ (1 ≤ (upd (qBd q) bi x2 j).toInt ∧ (upd (qBd q) bi x2 j).toInt ≤ (qDe q).toInt) ∧ (0 ≤ (upd (qBb q) bi x3 j).toInt ∧ (upd (qBb q) bi x3 j).toInt < ba) ∧ upd (pBl p) bi (yesOf T e s3) j = upd (qBl q) bi (yesOf T e s3) j ∧ (upd (qBl q) bi (yesOf T e s3) j = 0 ∨ upd (qBl q) bi (yesOf T e s3) j = 1)
              by_cases ej : j = bi
              · subst ej
                simp only [pk_us]
                exact ⟨trivial, ⟨e2, by omega⟩, ⟨e4, e5⟩, hjb, trivial, hy2⟩
              · simp only [pk_un ej]
                exact hb j (by omega)
          · rw [f8, Option.bind_some, d_yes f9.2.2.1]
            exact line_fail (f6 _ _ _) hkk hz rfl f9
        · rw [a8, Option.bind_some]
          dsimp only
          rw [d_readPartBait c14 hN a9.2.2.1, Option.bind_some, d_yes a9.2.2.1]
          exact line_fail (a6 _ _ _) hkk hz rfl a9
      · rw [t5, Option.bind_some, if_pos rfl, t6, Option.bind_some]
        dsimp only
        rw [d_readPart t7.2.2.1, Option.bind_some]
        dsimp only
        rw [d_readPartBait c14 hN t7.2.2.1, Option.bind_some, d_yes t7.2.2.1]
        exact line_fail ⟨_, rfl⟩ (by rcases hkk with rfl | rfl <;> decide) hl.2 rfl t7
theorem tf : ¬ true = false := by decide
/-- a line -/
theorem line_all (hT : ∀ j, byt (T j)) (he : e ≤ 900) (hs : s ≤ e) (hm : MW T e s num w) (hR : PR p q n1 nb N) : Line T fed a e s (f_X7_readLine (RD T fed e s (v, n1, nb, nI N, 0, pl)) p) (f_X12_readLine (MD T a e s num 0 wr w) q) := by
  rw [f_X7_readLine, f_X12_readLine, x_isw w_pier he, x_isw w_bait he, x_isw w_asker he, x_isw w_answer he, x_isw w_dark he, x_isw w_bite he, m_isw w_pier hm, m_isw w_bait hm, m_isw w_asker hm, m_isw w_answer hm, m_isw w_dark hm, m_isw w_bite hm]
  simp only [Option.bind_some, b01]
  by_cases k1 : isw T e s tx_pier = true
  · rw [k1, if_neg tf, if_neg tf]
    have := line_y (l_pier (fed := fed) (a := a) (v := v) (pl := pl) (num := num) (wr := wr) (w := w) hT he hs (isw_kind k1) hR)
    by_cases h0 : p.1 = 0
    · rw [if_pos h0] at this ⊢
      exact line_x2 this
    · rw [if_neg h0] at this ⊢
      exact this
  · have k1f : isw T e s tx_pier = false := by simpa using k1
    rw [if_pos k1f, if_pos k1f]
    by_cases k2 : isw T e s tx_bait = true
    · rw [k2, if_neg tf, if_neg tf]
      exact line_y (l_bait hT he hs (isw_kind k2) hR)
    · have k2f : isw T e s tx_bait = false := by simpa using k2
      rw [if_pos k2f, if_pos k2f]
      by_cases k3 : isw T e s tx_asker = true
      · rw [k3, if_neg tf, if_neg tf]
        exact line_y (l_asker hT he hs (isw_kind k3) hR)
      · have k3f : isw T e s tx_asker = false := by simpa using k3
        rw [if_pos k3f, if_pos k3f]
        by_cases k4 : isw T e s tx_answer = true
        · rw [k4, if_neg tf, if_neg tf]
          exact line_y (l_answer hT he hs (isw_kind k4) hR)
        · have k4f : isw T e s tx_answer = false := by simpa using k4
          rw [if_pos k4f, if_pos k4f]
          by_cases k5 : isw T e s tx_dark = true
          · rw [k5, if_neg tf, if_neg tf]
            exact line_y (l_dark hT he hs (isw_kind k5) hR)
          · have k5f : isw T e s tx_dark = false := by simpa using k5
            rw [if_pos k5f, if_pos k5f]
            by_cases k6 : isw T e s tx_bite = true
            · rw [k6, if_neg tf, if_neg tf]
              exact line_y (l_bite hT he hs (isw_kind k6) hR)
            · have k6f : isw T e s tx_bite = false := by simpa using k6
              rw [if_pos k6f, if_pos k6f, nm, nm, x_fail]
              exact line_fail ⟨_, rfl⟩ (by decide) hs rfl m_flaw
end LN
