/-! the lines: an answer, a bite -/
theorem upd_two {f g : Nat → Int32} {n j : Nat} {x : Int32} {Q : Int32 → Prop} (hj : j < n + 1) (h : ∀ i, i < n → f i = g i ∧ Q (g i)) (hx : Q x) : upd f n x j = upd g n x j ∧ Q (upd g n x j) := by
  by_cases e : j = n
  · subst e
    rw [pk_us, pk_us]
    exact ⟨rfl, hx⟩
  · rw [pk_un e, pk_un e]
    exact h j (by omega)
theorem upd_Q {g : Nat → Int32} {n j : Nat} {x : Int32} {Q : Int32 → Prop} (hj : j < n + 1) (h : ∀ i, i < n → Q (g i)) (hx : Q x) : Q (upd g n x j) := by
  by_cases e : j = n
  · subst e
    rw [pk_us]
    exact hx
  · rw [pk_un e]
    exact h j (by omega)
section LN
variable {T : Nat → Int32} {fed a v pl num wr : Int32} {n1 : Nat → Int64} {nb : Nat → Int32} {w : Int64} {e s N : Nat} {p : TX6_p} {q : TX11_q}
theorem nm_keep {c : Int64} {bt : Int32} (h : NmRel n1 nb q N) : NmRel (vp_updL n1 N c) (upd nb N bt) q N := by
  intro j hj
  rw [pk_uLn (by omega), pk_un (by omega)]
  exact h j hj
/-- the kind's word, as the reference looks it up -/
theorem m_kind {c : Int64} (hm : MW T e s num w) : ((f_X12_isWord tx_plain (c, MD T a e s num 0 wr w).2).bind fun (o21 : Int32) => (if o21 = (0 : Int32) then ((f_X12_isWord tx_cold (c, MD T a e s num 0 wr w).2).bind fun (o34 : Int32) => (if o34 = (0 : Int32) then ((f_X12_isWord tx_crab (c, MD T a e s num 0 wr w).2).bind fun (o47 : Int32) => (if o47 = (0 : Int32) then ((f_X12_isWord tx_boot (c, MD T a e s num 0 wr w).2).bind fun (o60 : Int32) => (if o60 = (0 : Int32) then (f_X12_readAnswer_J71 q (c, MD T a e s num 0 wr w) (-1 : Int32)) else (f_X12_readAnswer_J71 q (c, MD T a e s num 0 wr w) (3 : Int32)))) else (f_X12_readAnswer_J71 q (c, MD T a e s num 0 wr w) (2 : Int32)))) else (f_X12_readAnswer_J71 q (c, MD T a e s num 0 wr w) (1 : Int32)))) else (f_X12_readAnswer_J71 q (c, MD T a e s num 0 wr w) (0 : Int32)))) = f_X12_readAnswer_J71 q (c, MD T a e s num 0 wr w) (kindOf T e s) := by
  dsimp only
  rw [m_isw w_plain hm, m_isw w_cold hm, m_isw w_crab hm, m_isw w_boot hm]
  simp only [Option.bind_some, b01]
  unfold kindOf
  cases isw T e s tx_plain <;> cases isw T e s tx_cold <;> cases isw T e s tx_crab <;> cases isw T e s tx_boot <;> simp
theorem sub_1 {x : Int32} (h : 2 ≤ x.toInt) : (x - 1).toInt = x.toInt - 1 := by
  have := i32_hi x
  rw [isub_t (by rw [ltv_1]; omega) (by rw [ltv_1]; omega), ltv_1]
theorem l_answer (hT : ∀ j, byt (T j)) (he : e ≤ 900) (hs : s ≤ e) (hk : tkk T e s = 1) (hR : PR p q n1 nb N) : Line T fed a e s (if (6 : Int32) ≤ p.2.2.2.2.2.2.1 then f_X7_readLine_J143 (RD T fed e s (v, n1, nb, nI N, 0, pl)) p 5 else f_X7_readLine_J143 (RD T fed e s (v, n1, nb, nI N, 0, pl)) p 0) (f_X12_readAnswer (MD T a e s num 0 wr w) q) := by
  obtain ⟨ba, as, an, bi, hc, hh, hn, ha, hw, hb⟩ := hR
  obtain ⟨c1, c2, c3, c4, c5, c6, c7, c8, c9, c10, c11, c12, c13, c14⟩ := hc
  have dead : ∀ (m' : TX12_s) (o : Int64) (kd : Int32), m'.2.2.2.2.1 = 5 → f_X12_readAnswer_J82 q (o, m') kd m' = some (m', q) := fun m' o kd h => by
    rw [f_X12_readAnswer_J82, m_dead h, Option.bind_some, d_readPart h, Option.bind_some, d_readPart h, Option.bind_some, d_readPart h, Option.bind_some, d_readPartBait c14 (by omega) h, Option.bind_some, d_readPart h, Option.bind_some, if_pos h]
  have dead2 : ∀ (m' : TX12_s) (o : Int64), m'.2.2.2.2.1 = 5 → ((f_X12_isWord tx_plain (o, m').2).bind fun (o21 : Int32) => (if o21 = (0 : Int32) then ((f_X12_isWord tx_cold (o, m').2).bind fun (o34 : Int32) => (if o34 = (0 : Int32) then ((f_X12_isWord tx_crab (o, m').2).bind fun (o47 : Int32) => (if o47 = (0 : Int32) then ((f_X12_isWord tx_boot (o, m').2).bind fun (o60 : Int32) => (if o60 = (0 : Int32) then (f_X12_readAnswer_J71 q (o, m') (-1 : Int32)) else (f_X12_readAnswer_J71 q (o, m') (3 : Int32)))) else (f_X12_readAnswer_J71 q (o, m') (2 : Int32)))) else (f_X12_readAnswer_J71 q (o, m') (1 : Int32)))) else (f_X12_readAnswer_J71 q (o, m') (0 : Int32)))) = some (m', q) := fun m' o h => by
    dsimp only
    rw [d_isWord h, d_isWord h, d_isWord h, d_isWord h, Option.bind_some, if_pos rfl, Option.bind_some, if_pos rfl, Option.bind_some, if_pos rfl, Option.bind_some, if_pos rfl, f_X12_readAnswer_J71, if_pos rfl, nm]
    dsimp only
    rw [d_flaw h, dead m' o (-1) h]
  rw [show p.2.2.2.2.2.2.1 = nI an from c7, f_X12_readAnswer, show q.2.2.2.2.2.2.1 = nI an from c8]
  by_cases h4 : an = 6
  · subst h4
    obtain ⟨m', g1, g2⟩ := @m_begin5 T a num wr 6 w e s q
    rw [if_pos (show (6 : Int32) ≤ nI 6 from by decide), f_X7_readLine_J143, x_openk (by decide), Option.bind_some, if_pos rfl, show nI 6 = (6 : Int32) from rfl, g1, Option.bind_some, d_readFresh c14 (by omega) g2.2.2.1, Option.bind_some, dead2 _ _ g2.2.2.1]
    exact line_fail ⟨_, rfl⟩ (by decide) hs rfl g2
  · have hne : ¬ nI an = (6 : Int32) := fun z => h4 ((nI_eq (b := 6) (by omega) (by omega)).mp z)
    rw [if_neg (show ¬ (6 : Int32) ≤ nI an from nI_ge (b := 6) (by omega) (by omega)), f_X7_readLine_J143]
    by_cases h0 : qSp q = 0
    · obtain ⟨m', g1, g2⟩ := @m_begin6 T a num wr (nI an) 6 w e s q hne h0
      rw [x_open0 (hh.1.trans h0), Option.bind_some, if_pos rfl, g1, Option.bind_some, d_readFresh c14 (by omega) g2.2.2.1, Option.bind_some, dead2 _ _ g2.2.2.1]
      exact line_fail ⟨_, rfl⟩ (by decide) hs rfl g2
    · have hl := nxt_lt hk
      have hq := head_1 hh h0
      obtain ⟨num1, w1, g1, g2⟩ := m_begin (a := a) (num := num) (wr := wr) (w := w) hT he hs (by rw [hk]; decide) hne h0
      rw [x_open1 he hs (fun z => h0 (hh.1.symm.trans z)), Option.bind_some, if_neg one_ne, g1, Option.bind_some]
      refine line_lt (Nat.le_of_lt hl.1) (line_x ?_)
      rw [f_X7_readAnswer, show p.2.2.2.2.2.2.1 = nI an from c7, show p.1 = q.1 from hh.1, show p.2.1 = q.2.1 from hh.2.1]
      rcases p_fresh (fed := fed) (a := a) (v := v) (bt := -1) (fa := 0) (pl := pl) (wr := wr) hT he hl.2 g2 c14 (by omega) hn.1 with ⟨c, t1, t2, t3, t4, num2, w2, t5, t6⟩ | ⟨k, hkk, t4, m', x, t5, t6⟩
      · rw [t4, Option.bind_some, if_neg one_ne, t5, Option.bind_some, m_kind t6, x_kind he t2]
        refine line_lt (Nat.le_of_lt t1) ?_
        generalize nxt T e (nxt T e s) = s1 at t1 t2 t6
        rcases @kindOf_r T e s1 with hk1 | ⟨hk1, hk2⟩
        · have hd := @m_flaw T a 1 num2 0 wr w2 e s1
          rw [if_pos hk1, Option.bind_some, if_pos rfl, f_X12_readAnswer_J71, if_pos hk1, nm]
          have e82 : f_X12_readAnswer_J82 q (c, MD T a e s1 num2 0 wr w2) (kindOf T e s1) (f_X12_flaw 1 (MD T a e s1 num2 0 wr w2)) = some (f_X12_flaw 1 (MD T a e s1 num2 0 wr w2), q) := by
            rw [f_X12_readAnswer_J82, m_dead hd.2.2.1, Option.bind_some, d_readPart hd.2.2.1, Option.bind_some, d_readPart hd.2.2.1, Option.bind_some, d_readPart hd.2.2.1, Option.bind_some, d_readPartBait c14 (by omega) hd.2.2.1, Option.bind_some, d_readPart hd.2.2.1, Option.bind_some, if_pos hd.2.2.1]
          dsimp only
          rw [e82]
          exact line_fail ⟨_, rfl⟩ (by decide) t2 rfl hd
        · have hkn : ¬ kindOf T e s1 = -1 := by rcases hk2 with h | h | h | h <;> rw [h] <;> decide
          have hkb : 0 ≤ (kindOf T e s1).toInt ∧ (kindOf T e s1).toInt ≤ 3 := by rcases hk2 with h | h | h | h <;> rw [h] <;> decide
          have hl2 := nxt_lt hk1
          obtain ⟨num3, w3, y1, y2⟩ := m_adv (a := a) (num := num2) (fa := 0) (wr := wr) (w := w2) hT he t2 (by rw [hk1]; decide)
          rw [if_neg hkn, Option.bind_some, if_neg one_ne, gA_in (vin (show an < 6 by omega) (by omega)), f_X12_readAnswer_J71, if_neg hkn, f_X12_readAnswer_J82]
          dsimp only
          rw [y1, Option.bind_some]
          generalize kindOf T e s1 = kd at hkn hkb
          refine line_lt (Nat.le_of_lt hl2.1) ?_
          rcases c_part (fed := fed) (a := a) (v := kd) (ns := nI (N + 1)) (fa := 0) (pl := pl) (n1 := vp_updL n1 N c) (nb := upd nb N (-1)) (wr := wr) (lo := 0) (hi := q.1 - 1) w_at hT he hl2.2 y2 with ⟨s2, x2, a1, a2, a4, a5, a6, num4, w4, a8, a9⟩ | ⟨k, z, hkk, hz, a6, m', y, a8, a9⟩
          · rw [a6, gA_in (vin (show an < 6 by omega) (by omega)), a8, Option.bind_some]
            dsimp only
            refine line_lt (Nat.le_of_lt a1) ?_
            rcases c_part (fed := fed) (a := a) (v := x2) (ns := nI (N + 1)) (fa := 0) (pl := pl) (n1 := vp_updL n1 N c) (nb := upd nb N (-1)) (wr := wr) (lo := 1) (hi := q.2.1) w_depth hT he a2 a9 with ⟨s3, x3, b1, b2, b4, b5, b6, num5, w5, b8, b9⟩ | ⟨k, z, hkk, hz, b6, m', y, b8, b9⟩
            · rw [b6, gA_in (vin (show an < 6 by omega) (by omega)), b8, Option.bind_some]
              dsimp only
              refine line_lt (Nat.le_of_lt b1) ?_
              rcases c_part (fed := fed) (a := a) (v := x3) (ns := nI (N + 1)) (fa := 0) (pl := pl) (n1 := vp_updL n1 N c) (nb := upd nb N (-1)) (wr := wr) (lo := 0) (hi := 99) w_hunger hT he b2 b9 with ⟨s4, x4, d1, d2, d4, d5, d6, num6, w6, d8, d9⟩ | ⟨k, z, hkk, hz, d6, m', y, d8, d9⟩
              · rw [d6, gA_in (vin (show an < 6 by omega) (by omega)), d8, Option.bind_some]
                dsimp only
                refine line_lt (Nat.le_of_lt d1) ?_
                rcases c_bait (fed := fed) (a := a) (v := x4) (M := N + 1) (fa := 0) (pl := pl) (n1 := vp_updL n1 N c) (nb := upd nb N (-1)) (wr := wr) w_likes hT he d2 d9 c14 (by omega) (nm_keep hn.1) (Or.inr ⟨rfl, by omega, pk_us⟩) with ⟨s5, x5, f1, f2, f3, f6, num7, w7, f8, f9⟩ | ⟨k, z, hkk, hz, f6, m', y, f8, f9⟩
                · rw [f6, gA_in (vin (show an < 6 by omega) (by omega)), f8, Option.bind_some]
                  dsimp only
                  refine line_lt (Nat.le_of_lt f1) ?_
                  rcases c_part (fed := fed) (a := a) (v := x5) (ns := nI (N + 1)) (fa := 0) (pl := pl) (n1 := vp_updL n1 N c) (nb := upd nb N (-1)) (wr := wr) (lo := 0) (hi := 99) w_worth hT he f2 f9 with ⟨s6, x6, i1, i2, i4, i5, i6, num8, w8, i8, i9⟩ | ⟨k, z, hkk, hz, i6, m', y, i8, i9⟩
                  · rw [i6, gA_in (vin (show an < 6 by omega) (by omega)), i8, Option.bind_some]
                    dsimp only
                    rw [if_neg MD_so, m_names c14 (by omega), Option.bind_some, show q.2.2.2.2.2.2.1 = nI an from c8, gA_in (vin (show an < 6 by omega) (by omega)), gA_in (vin (show an < 6 by omega) (by omega)), gA_in (vin (show an < 6 by omega) (by omega)), gA_in (vin (show an < 6 by omega) (by omega)), gA_in (vin (show an < 6 by omega) (by omega)), gA_in (vin (show an < 6 by omega) (by omega)), nI_clamp (by omega), nIs]
                    have e2 := le_i a4
                    have e3 := le_i a5
                    have e4 := le_i b4
                    have e5 := le_i b5
                    have e6 := le_i d4
                    have e7 := le_i d5
                    have e8 := le_i i4
                    have e9 := le_i i5
                    rw [ltv_0] at e2 e6 e8
                    rw [ltv_1] at e4
                    rw [ltv_99] at e7 e9
                    rw [sub_1 hq.1] at e3
                    obtain ⟨jb, jb1, jb2, jb3⟩ := f3
                    have hjb := hn.2 jb jb1 jb2
                    rw [← jb3] at hjb
                    refine Or.inl ⟨s6, x6, _, _, N + 1, pl, num8, wr, w8, _, _, i1, i2, rfl, rfl, i9, ba, as, an + 1, bi, ⟨c1, c2, c3, c4, c5, c6, rfl, ?_, by omega, c10, c11, c12, by omega, rfl⟩, ⟨rfl, rfl, hh.2.2.1, hh.2.2.2.1, hh.2.2.2.2.1, Or.inr hq⟩, nm_add hn (Nat.le_refl _) (Or.inr ⟨by decide, rfl⟩), ha, ?_, hb⟩
                    · show q.2.2.2.2.2.2.1 + 1 = _
                      rw [show q.2.2.2.2.2.2.1 = nI an from c8, nIs]
                    · intro j hj
                      exact ⟨upd_two (Q := fun x => 0 ≤ x.toInt ∧ x.toInt ≤ 3) hj (fun i hi => (hw i hi).1) hkb, upd_two (Q := fun x => 0 ≤ x.toInt ∧ x.toInt < (qSp q).toInt) hj (fun i hi => (hw i hi).2.1) ⟨e2, by show x2.toInt < (qSp q).toInt; omega⟩, upd_two (Q := fun x => 1 ≤ x.toInt ∧ x.toInt ≤ (qDe q).toInt) hj (fun i hi => (hw i hi).2.2.1) ⟨e4, e5⟩, upd_two (Q := fun x => 0 ≤ x.toInt ∧ x.toInt ≤ 99) hj (fun i hi => (hw i hi).2.2.2.1) ⟨e6, e7⟩, upd_two (Q := fun x => 0 ≤ x.toInt ∧ x.toInt < ba) hj (fun i hi => (hw i hi).2.2.2.2.1) hjb, upd_two (Q := fun x => 0 ≤ x.toInt ∧ x.toInt ≤ 99) hj (fun i hi => (hw i hi).2.2.2.2.2) ⟨e8, e9⟩⟩
                  · rw [i8, Option.bind_some, if_pos i9.2.2.1]
                    exact line_fail (i6 _ _ _) hkk hz rfl i9
                · rw [f8, Option.bind_some, d_readPart f9.2.2.1, Option.bind_some, if_pos f9.2.2.1]
                  exact line_fail (f6 _ _ _) hkk hz rfl f9
              · rw [d8, Option.bind_some, d_readPartBait c14 (by omega) d9.2.2.1, Option.bind_some, d_readPart d9.2.2.1, Option.bind_some, if_pos d9.2.2.1]
                exact line_fail (d6 _ _ _) hkk hz rfl d9
            · rw [b8, Option.bind_some, d_readPart b9.2.2.1, Option.bind_some, d_readPartBait c14 (by omega) b9.2.2.1, Option.bind_some, d_readPart b9.2.2.1, Option.bind_some, if_pos b9.2.2.1]
              exact line_fail (b6 _ _ _) hkk hz rfl b9
          · rw [a8, Option.bind_some, d_readPart a9.2.2.1, Option.bind_some, d_readPart a9.2.2.1, Option.bind_some, d_readPartBait c14 (by omega) a9.2.2.1, Option.bind_some, d_readPart a9.2.2.1, Option.bind_some, if_pos a9.2.2.1]
            exact line_fail (a6 _ _ _) hkk hz rfl a9
      · rw [t4, Option.bind_some, if_pos rfl, t5, Option.bind_some, dead2 _ _ t6.2.2.1]
        exact line_fail ⟨_, rfl⟩ (by rcases hkk with rfl | rfl <;> decide) hl.2 rfl t6
end LN
