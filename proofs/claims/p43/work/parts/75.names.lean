/-! new names, baits -/
theorem d_readFresh {m : TX12_s} {q : TX11_q} {N : Nat} (hr : qnames q = nI N) (hN : N ≤ 15) (h : m.2.2.2.2.1 = 5) : f_X12_readFresh m q = some (m.2.2.2.2.2.2.2.2.2, m) := by
  rw [f_X12_readFresh, d_isName h, Option.bind_some, if_pos rfl, nm, d_flaw h, f_X12_readFresh_J12, m_find hr hN, Option.bind_some, nm, d_flaw h, ite_self, f_X12_readFresh_J32, m_dead h, Option.bind_some]
theorem d_readPartBait {w : List Int32} {m : TX12_s} {q : TX11_q} {N : Nat} (hr : qnames q = nI N) (hN : N ≤ 15) (h : m.2.2.2.2.1 = 5) : f_X12_readPartBait w m q = some (0, m) := by
  rw [f_X12_readPartBait, d_needs h, Option.bind_some, d_isName h, Option.bind_some, if_pos rfl, nm, d_flaw h, f_X12_readPartBait_J17, m_find hr hN, Option.bind_some]
  have e51 : ∀ o : Int32, f_X12_readPartBait_J51 q o m = some (0, m) := fun o => by
    rw [f_X12_readPartBait_J51, if_pos h, f_X12_readPartBait_J72, m_dead h, Option.bind_some]
  have e46 : ∀ o : Int32, f_X12_readPartBait_J46 q o m = some (0, m) := fun o => by
    rw [f_X12_readPartBait_J46, nm, d_flaw h, e51]
  by_cases c : fnd (qname q) m.2.2.2.2.2.2.2.2.2 N 0 = -1
  · rw [if_pos c, e46]
  · rw [if_neg c]
    rcases @fnd_range (qname q) m.2.2.2.2.2.2.2.2.2 N 0 with g | ⟨j, g1, g2, g3, g4⟩
    · exact absurd g c
    · rw [g3, gA_in (vin (by omega) (by omega)), nm, e51, e46, ite_self]
/-- the two lists of names are alike as far as N -/
def NmRel (n1 : Nat → Int64) (nb : Nat → Int32) (q : TX11_q) (N : Nat) : Prop := ∀ j, j < N → n1 j = qname q j ∧ ((qsort q j = 0 ∧ nb j = qnumb q j ∧ ¬ nb j = -1) ∨ (¬ qsort q j = 0 ∧ nb j = -1))
theorem p_fresh {T : Nat → Int32} {fed a v bt fa pl num wr : Int32} {n1 : Nat → Int64} {nb : Nat → Int32} {w0 : Int64} {e s N : Nat} {q : TX11_q} (hT : ∀ j, byt (T j)) (he : e ≤ 900) (hs : s ≤ e) (hm : MW T e s num w0) (hr : qnames q = nI N) (hN : N < 15) (hq : NmRel n1 nb q N) :
    (∃ c, s < nxt T e s ∧ nxt T e s ≤ e ∧ fnd (qname q) c N 0 = -1 ∧ f_X7_takeNewName bt (RD T fed e s (v, n1, nb, nI N, fa, pl)) = some (1, RD T fed e (nxt T e s) (v, vp_updL n1 N c, upd nb N bt, nI (N + 1), fa, pl)) ∧ ∃ num' w', f_X12_readFresh (MD T a e s num 0 wr w0) q = some (c, MD T a e (nxt T e s) num' 0 wr w') ∧ MW T e (nxt T e s) num' w') ∨
    (∃ k, (k = 1 ∨ k = 3) ∧ f_X7_takeNewName bt (RD T fed e s (v, n1, nb, nI N, fa, pl)) = some (0, RD T fed e s (v, n1, nb, nI N, k, nI s)) ∧ ∃ m' x, f_X12_readFresh (MD T a e s num 0 wr w0) q = some (x, m') ∧ DEAD T a k s m') := by
  rw [f_X7_takeNewName, f_X12_readFresh, x_isName he, m_isName hm, Option.bind_some, Option.bind_some]
  by_cases c : isNm T e s = true
  · have hk := isNm_kind c
    obtain ⟨h1, h2, h3, h4, h5, h6, h7⟩ := tk_word hk
    have hn := @tks_le T e (tkb T e s) h6
    rw [if_neg (by rw [if_pos c]; decide), if_neg (by rw [if_pos c]; decide), x_code he hk, Option.bind_some, x_nameOfR (by omega), Option.bind_some, f_X12_readFresh_J12, show (MD T a e s num 0 wr w0).2.2.2.2.2.2.2.2.2 = w0 from rfl, hm.1 hk, m_find hr (by omega), Option.bind_some]
    generalize wcode T (tkb T e s - s) s 0 = cd
    have ef : fnd n1 cd N 0 = fnd (qname q) cd N 0 := fnd_congr N 0 (fun j _ g => (hq j (by omega)).1)
    rw [ef]
    by_cases c2 : fnd (qname q) cd N 0 = -1
    · left
      obtain ⟨num', w', g1, g2⟩ := m_adv (a := a) (num := num) (fa := 0) (wr := wr) (w := cd) hT he hs (by rw [hk]; decide)
      refine ⟨cd, by unfold nxt; omega, by unfold nxt; omega, c2, ?_, num', w', ?_, g2⟩
      · rw [if_pos c2, if_pos (show (RD T fed e s (v, n1, nb, nI N, fa, pl)).2.2.2.2.2.2.2.2.2.1 < 15 from nI_lt (b := 15) hN (by omega)), gA_in (show vp_in (RD T fed e s (v, n1, nb, nI N, fa, pl)).2.2.2.2.2.2.2.2.2.1 15 from vin hN (by omega)), gA_in (show vp_in (RD T fed e s (v, n1, nb, nI N, fa, pl)).2.2.2.2.2.2.2.2.2.1 15 from vin hN (by omega))]
        show (f_X7_advance (RD T fed e s (v, vp_updL n1 (nI N).toNatClampNeg cd, upd nb (nI N).toNatClampNeg bt, nI N + 1, fa, pl))).bind _ = _
        rw [nI_clamp (by omega), nIs, x_adv he hs, Option.bind_some]
      · rw [if_pos c2, f_X12_readFresh_J32, g1, Option.bind_some]
        rfl
    · right
      have hd := @m_flaw T a 3 num 0 wr cd e s
      refine ⟨3, Or.inr rfl, ?_, _, cd, ?_, hd⟩
      · rw [if_neg c2, f_X7_takeNewName_J39, nm, x_fail]
      · rw [if_neg c2, nm, f_X12_readFresh_J32, m_dead hd.2.2.1, Option.bind_some]
        congr 2
        rw [f_X12_flaw, if_neg (show ¬ (MD T a e s num 0 wr cd).2.2.2.2.1 = 5 from mso_ne5)]
        rfl
  · right
    have hd := @m_flaw T a 1 num 0 wr w0 e s
    refine ⟨1, Or.inl rfl, ?_, _, (f_X12_flaw 1 (MD T a e s num 0 wr w0)).2.2.2.2.2.2.2.2.2, ?_, hd⟩
    · rw [if_pos (by rw [if_neg c]), nm, x_fail]
    · rw [if_pos (by rw [if_neg c]), nm, f_X12_readFresh_J12, m_find hr (by omega), Option.bind_some, nm, d_flaw hd.2.2.1, ite_self, f_X12_readFresh_J32, m_dead hd.2.2.1, Option.bind_some]
/-- a bait that is named: the class looks through M names, those beyond N being no baits and not found by the reference -/
theorem c_bait {w : List Int32} (hw : wok w = true) {T : Nat → Int32} {fed a v fa pl num wr : Int32} {n1 : Nat → Int64} {nb : Nat → Int32} {w0 : Int64} {e s N M : Nat} {q : TX11_q} (hT : ∀ j, byt (T j)) (he : e ≤ 900) (hs : s ≤ e) (hm : MW T e s num w0) (hr : qnames q = nI N) (hN : N ≤ 15) (hq : NmRel n1 nb q N) (hM : M = N ∨ (M = N + 1 ∧ M ≤ 15 ∧ nb N = -1)) :
    (∃ s2 x, s < s2 ∧ s2 ≤ e ∧ (∃ j, j < N ∧ qsort q j = 0 ∧ x = qnumb q j) ∧ (∀ (P1 P2 : TX6_p) (B : Int32 × TX7_r → Option (Int32 × TX7_r × TX6_p)), (f_X7_takeWord w (RD T fed e s (v, n1, nb, nI M, fa, pl))).bind (fun (o : Int32 × TX7_r) => if o.1 = (0 : Int32) then some ((0 : Int32), o.2, P1) else (f_X7_takeBait o.2).bind (fun (o2 : Int32 × TX7_r) => if o2.1 = (0 : Int32) then some ((0 : Int32), o2.2, P2) else B o2)) = B (1, RD T fed e s2 (x, n1, nb, nI M, fa, pl))) ∧ ∃ num' w', f_X12_readPartBait w (MD T a e s num 0 wr w0) q = some (x, MD T a e s2 num' 0 wr w') ∧ MW T e s2 num' w') ∨
    (∃ k z, (1 ≤ k.toInt ∧ k.toInt ≤ 6) ∧ z ≤ e ∧ (∀ (P1 P2 : TX6_p) (B : Int32 × TX7_r → Option (Int32 × TX7_r × TX6_p)), ∃ P, (f_X7_takeWord w (RD T fed e s (v, n1, nb, nI M, fa, pl))).bind (fun (o : Int32 × TX7_r) => if o.1 = (0 : Int32) then some ((0 : Int32), o.2, P1) else (f_X7_takeBait o.2).bind (fun (o2 : Int32 × TX7_r) => if o2.1 = (0 : Int32) then some ((0 : Int32), o2.2, P2) else B o2)) = some (0, RD T fed e z (v, n1, nb, nI M, k, nI z), P)) ∧ ∃ m' y, f_X12_readPartBait w (MD T a e s num 0 wr w0) q = some (y, m') ∧ DEAD T a k z m') := by
  have hM15 : M ≤ 15 := by omega
  rcases p_word (fed := fed) (a := a) (v := v) (ns := nI M) (fa := fa) (pl := pl) (n1 := n1) (nb := nb) (wr := wr) hw hT he hs hm with ⟨h1, h2, h3, num', w', h4, h5⟩ | ⟨h3, m', h4, h5⟩
  · generalize nxt T e s = s1 at h1 h2 h3 h4 h5
    have key : (∃ x, s1 < nxt T e s1 ∧ nxt T e s1 ≤ e ∧ (∃ j, j < N ∧ qsort q j = 0 ∧ x = qnumb q j) ∧ f_X7_takeBait (RD T fed e s1 (v, n1, nb, nI M, fa, pl)) = some (1, RD T fed e (nxt T e s1) (x, n1, nb, nI M, fa, pl)) ∧ ∃ num2 w2, (f_X12_isName (MD T a e s1 num' 0 wr w')).bind (fun (o6 : Int32) => if o6 = (0 : Int32) then nm (f_X12_flaw (1 : Int32) (MD T a e s1 num' 0 wr w')) (fun (o14 : TX12_s) => f_X12_readPartBait_J17 q o14) else f_X12_readPartBait_J17 q (MD T a e s1 num' 0 wr w')) = some (x, MD T a e (nxt T e s1) num2 0 wr w2) ∧ MW T e (nxt T e s1) num2 w2) ∨ (∃ k, (k = 1 ∨ k = 2) ∧ f_X7_takeBait (RD T fed e s1 (v, n1, nb, nI M, fa, pl)) = some (0, RD T fed e s1 (v, n1, nb, nI M, k, nI s1)) ∧ ∃ m' y, (f_X12_isName (MD T a e s1 num' 0 wr w')).bind (fun (o6 : Int32) => if o6 = (0 : Int32) then nm (f_X12_flaw (1 : Int32) (MD T a e s1 num' 0 wr w')) (fun (o14 : TX12_s) => f_X12_readPartBait_J17 q o14) else f_X12_readPartBait_J17 q (MD T a e s1 num' 0 wr w')) = some (y, m') ∧ DEAD T a k s1 m') := by
      rw [f_X7_takeBait, x_isName he, m_isName h5, Option.bind_some, Option.bind_some]
      by_cases c : isNm T e s1 = true
      · have hk := isNm_kind c
        obtain ⟨t1, t2, t3, t4, t5, t6, t7⟩ := tk_word hk
        have hn := @tks_le T e (tkb T e s1) t6
        rw [if_neg (by rw [if_pos c]; decide), if_neg (by rw [if_pos c]; decide), x_code he hk, Option.bind_some, x_nameOfR hM15, Option.bind_some, f_X12_readPartBait_J17, show (MD T a e s1 num' 0 wr w').2.2.2.2.2.2.2.2.2 = w' from rfl, h5.1 hk, m_find hr hN, Option.bind_some]
        rw [h5.1 hk] at h5
        generalize hcd : wcode T (tkb T e s1 - s1) s1 0 = cd at h5
        have ef : fnd n1 cd N 0 = fnd (qname q) cd N 0 := fnd_congr N 0 (fun j _ g => (hq j (by omega)).1)
        have e46 : ∀ o, ∃ m', f_X12_readPartBait_J46 q o (MD T a e s1 num' 0 wr cd) = some (0, m') ∧ DEAD T a 2 s1 m' := fun o => by
          have hd := @m_flaw T a 2 num' 0 wr cd e s1
          exact ⟨_, by rw [f_X12_readPartBait_J46, nm, f_X12_readPartBait_J51, if_pos hd.2.2.1, f_X12_readPartBait_J72, m_dead hd.2.2.1, Option.bind_some], hd⟩
        rcases @fnd_range (qname q) cd N 0 with g | ⟨j, g1, g2, g3, g4⟩
        · -- not among the first N
          right
          obtain ⟨m', q1, q2⟩ := e46 (-1)
          refine ⟨2, Or.inr rfl, ?_, m', 0, by rw [g, if_pos rfl, q1], q2⟩
          show (if fnd n1 cd M 0 = -1 then _ else _) = _
          rcases hM with rfl | ⟨rfl, hM2, hM3⟩
          · rw [ef, if_pos g, f_X7_takeBait_J37, nm, x_fail]
          · rw [fnd_snoc N 0 (by omega), ef, if_pos g, Nat.zero_add]
            by_cases c3 : n1 N = cd
            · rw [if_pos c3, if_neg (nI_m1 (by omega)), gA_in (vin (by omega) (by omega)), nI_clamp (by omega), if_pos (show (RD T fed e s1 (v, n1, nb, nI (N + 1), fa, pl)).2.2.2.2.2.2.2.2.1 N = -1 from hM3), f_X7_takeBait_J37, nm, x_fail]
            · rw [if_neg c3, if_pos rfl, f_X7_takeBait_J37, nm, x_fail]
        · have ex : fnd n1 cd M 0 = nI j := by
            rcases hM with rfl | ⟨rfl, hM2, hM3⟩
            · rw [ef, g3]
            · rw [fnd_snoc N 0 (by omega), ef, g3, if_neg (nI_m1 (by omega))]
          have hj := (hq j (by omega)).2
          rw [g3, if_neg (nI_m1 (by omega)), gA_in (vin (by omega) (by omega)), nm, nI_clamp (by omega)]
          show ((∃ x, s1 < nxt T e s1 ∧ nxt T e s1 ≤ e ∧ _ ∧ (if fnd n1 cd M 0 = -1 then _ else _) = _ ∧ _) ∨ _)
          rcases hj with ⟨j1, j2, j3⟩ | ⟨j1, j2⟩
          · left
            obtain ⟨num2, w2, q1, q2⟩ := m_adv (a := a) (num := num') (fa := 0) (wr := wr) (w := cd) hT he h2 (by rw [hk]; decide)
            refine ⟨nb j, by unfold nxt; omega, by unfold nxt; omega, ⟨j, by omega, j1, j2⟩, ?_, num2, w2, ?_, q2⟩
            · rw [ex, if_neg (nI_m1 (by omega)), gA_in (vin (by omega) (by omega)), nI_clamp (by omega), if_neg (show ¬ (RD T fed e s1 (v, n1, nb, nI M, fa, pl)).2.2.2.2.2.2.2.2.1 j = -1 from j3), gA_in (vin (by omega) (by omega))]
              show (f_X7_advance (RD T fed e s1 (nb j, n1, nb, nI M, fa, pl))).bind _ = _
              rw [x_adv he h2, Option.bind_some]
            · rw [if_pos j1, f_X12_readPartBait_J51, if_neg (show ¬ (MD T a e s1 num' 0 wr cd).2.2.2.2.1 = 5 from mso_ne5), gA_in (vin (by omega) (by omega)), nm, nI_clamp (by omega), f_X12_readPartBait_J72, q1, Option.bind_some, j2]
          · right
            obtain ⟨m', q1, q2⟩ := e46 (nI j)
            refine ⟨2, Or.inr rfl, ?_, m', 0, by rw [if_neg j1, q1], q2⟩
            show (if fnd n1 cd M 0 = -1 then _ else _) = _
            rw [ex, if_neg (nI_m1 (by omega)), gA_in (vin (by omega) (by omega)), nI_clamp (by omega), if_pos (show (RD T fed e s1 (v, n1, nb, nI M, fa, pl)).2.2.2.2.2.2.2.2.1 j = -1 from j2), f_X7_takeBait_J37, nm, x_fail]
      · right
        have hd := @m_flaw T a 1 num' 0 wr w' e s1
        refine ⟨1, Or.inl rfl, by rw [if_pos (by rw [if_neg c]), nm, x_fail], _, 0, ?_, hd⟩
        rw [if_pos (by rw [if_neg c]), nm, f_X12_readPartBait_J17, m_find hr hN, Option.bind_some]
        generalize f_X12_flaw 1 (MD T a e s1 num' 0 wr w') = m at hd
        have e51 : ∀ o : Int32, f_X12_readPartBait_J51 q o m = some (0, m) := fun o => by
          rw [f_X12_readPartBait_J51, if_pos hd.2.2.1, f_X12_readPartBait_J72, m_dead hd.2.2.1, Option.bind_some]
        have e46 : ∀ o : Int32, f_X12_readPartBait_J46 q o m = some (0, m) := fun o => by
          rw [f_X12_readPartBait_J46, nm, d_flaw hd.2.2.1, e51]
        rcases @fnd_range (qname q) m.2.2.2.2.2.2.2.2.2 N 0 with g | ⟨j, g1, g2, g3, g4⟩
        · rw [g, if_pos rfl, e46]
        · rw [g3, if_neg (nI_m1 (by omega)), gA_in (vin (by omega) (by omega)), nm, e51, e46, ite_self]
    rcases key with ⟨x, k1, k2, k3, k4, num2, w2, k5, k6⟩ | ⟨k, hk, k4, m', y, k5, k6⟩
    · left
      refine ⟨_, x, Nat.lt_trans h1 k1, k2, k3, fun P1 P2 B => ?_, num2, w2, by rw [f_X12_readPartBait, h4, Option.bind_some, k5], k6⟩
      rw [h3, Option.bind_some, if_neg one_ne, k4, Option.bind_some, if_neg one_ne]
    · right
      refine ⟨k, s1, by rcases hk with rfl | rfl <;> decide, h2, fun P1 P2 B => ⟨P2, ?_⟩, m', y, by rw [f_X12_readPartBait, h4, Option.bind_some, k5], k6⟩
      rw [h3, Option.bind_some, if_neg one_ne, k4, Option.bind_some, if_pos rfl]
  · right
    refine ⟨1, s, by decide, hs, fun P1 P2 B => ⟨P1, ?_⟩, m', 0, ?_, h5⟩
    · rw [h3, Option.bind_some, if_pos rfl]
    · rw [f_X12_readPartBait, h4, Option.bind_some]
      have := d_readPartBait (w := w) hr hN h5.2.2.1
      rw [f_X12_readPartBait, d_needs h5.2.2.1, Option.bind_some] at this
      exact this
