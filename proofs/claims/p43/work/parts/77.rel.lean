/-! what the two readers have read, side by side -/
abbrev pSp (p : TX6_p) : Int32 := p.1
abbrev pDe (p : TX6_p) : Int32 := p.2.1
abbrev pCf (p : TX6_p) : Int32 := p.2.2.1
abbrev pCt (p : TX6_p) : Int32 := p.2.2.2.1
abbrev pBa (p : TX6_p) : Int32 := p.2.2.2.2.1
abbrev pAs (p : TX6_p) : Int32 := p.2.2.2.2.2.1
abbrev pAn (p : TX6_p) : Int32 := p.2.2.2.2.2.2.1
abbrev pBi (p : TX6_p) : Int32 := p.2.2.2.2.2.2.2.1
abbrev pDk (p : TX6_p) : Int32 := p.2.2.2.2.2.2.2.2.1
abbrev pRe (p : TX6_p) : Nat → Int32 := p.2.2.2.2.2.2.2.2.2.1
abbrev pKi (p : TX6_p) : Nat → Int32 := p.2.2.2.2.2.2.2.2.2.2.1
abbrev pAt (p : TX6_p) : Nat → Int32 := p.2.2.2.2.2.2.2.2.2.2.2.1
abbrev pDp (p : TX6_p) : Nat → Int32 := p.2.2.2.2.2.2.2.2.2.2.2.2.1
abbrev pHu (p : TX6_p) : Nat → Int32 := p.2.2.2.2.2.2.2.2.2.2.2.2.2.1
abbrev pLi (p : TX6_p) : Nat → Int32 := p.2.2.2.2.2.2.2.2.2.2.2.2.2.2.1
abbrev pTo (p : TX6_p) : Nat → Int32 := p.2.2.2.2.2.2.2.2.2.2.2.2.2.2.2.1
abbrev pBt (p : TX6_p) : Nat → Int32 := p.2.2.2.2.2.2.2.2.2.2.2.2.2.2.2.2.1
abbrev pBl (p : TX6_p) : Nat → Int32 := p.2.2.2.2.2.2.2.2.2.2.2.2.2.2.2.2.2
abbrev qSp (q : TX11_q) : Int32 := q.1
abbrev qDe (q : TX11_q) : Int32 := q.2.1
abbrev qFr (q : TX11_q) : Int32 := q.2.2.1
abbrev qTo (q : TX11_q) : Int32 := q.2.2.2.1
abbrev qBa (q : TX11_q) : Int32 := q.2.2.2.2.1
abbrev qAs (q : TX11_q) : Int32 := q.2.2.2.2.2.1
abbrev qAn (q : TX11_q) : Int32 := q.2.2.2.2.2.2.1
abbrev qBi (q : TX11_q) : Int32 := q.2.2.2.2.2.2.2.1
abbrev qDk (q : TX11_q) : Int32 := q.2.2.2.2.2.2.2.2.1
abbrev qRe (q : TX11_q) : Nat → Int32 := q.2.2.2.2.2.2.2.2.2.2.1
abbrev qKi (q : TX11_q) : Nat → Int32 := q.2.2.2.2.2.2.2.2.2.2.2.1
abbrev qSt (q : TX11_q) : Nat → Int32 := q.2.2.2.2.2.2.2.2.2.2.2.2.1
abbrev qDp (q : TX11_q) : Nat → Int32 := q.2.2.2.2.2.2.2.2.2.2.2.2.2.1
abbrev qHu (q : TX11_q) : Nat → Int32 := q.2.2.2.2.2.2.2.2.2.2.2.2.2.2.1
abbrev qLi (q : TX11_q) : Nat → Int32 := q.2.2.2.2.2.2.2.2.2.2.2.2.2.2.2.1
abbrev qWo (q : TX11_q) : Nat → Int32 := q.2.2.2.2.2.2.2.2.2.2.2.2.2.2.2.2.1
abbrev qBs (q : TX11_q) : Nat → Int32 := q.2.2.2.2.2.2.2.2.2.2.2.2.2.2.2.2.2.1
abbrev qBd (q : TX11_q) : Nat → Int32 := q.2.2.2.2.2.2.2.2.2.2.2.2.2.2.2.2.2.2.1
abbrev qBb (q : TX11_q) : Nat → Int32 := q.2.2.2.2.2.2.2.2.2.2.2.2.2.2.2.2.2.2.2.1
abbrev qBl (q : TX11_q) : Nat → Int32 := q.2.2.2.2.2.2.2.2.2.2.2.2.2.2.2.2.2.2.2.2.1
def PRc (p : TX6_p) (q : TX11_q) (ba as an bi N : Nat) : Prop := pBa p = nI ba ∧ qBa q = nI ba ∧ ba ≤ 4 ∧ pAs p = nI as ∧ qAs q = nI as ∧ as ≤ 5 ∧ pAn p = nI an ∧ qAn q = nI an ∧ an ≤ 6 ∧ pBi p = nI bi ∧ qBi q = nI bi ∧ bi ≤ 6 ∧ N = ba + as + an ∧ qnames q = nI N
/-- the pier's own line; nothing else is told ahead of it -/
def PRh (p : TX6_p) (q : TX11_q) (N bi : Nat) : Prop := pSp p = qSp q ∧ pDe p = qDe q ∧ pDk p = qDk q ∧ (-1 ≤ (qDk q).toInt ∧ (qDk q).toInt ≤ 99) ∧ (0 < bi → ¬ qDk q = -1) ∧
  ((qSp q = 0 ∧ N = 0 ∧ bi = 0 ∧ qDk q = -1) ∨ (2 ≤ (qSp q).toInt ∧ (qSp q).toInt ≤ 8 ∧ 1 ≤ (qDe q).toInt ∧ (qDe q).toInt ≤ 9 ∧ pCf p = qFr q ∧ pCt p = qTo q ∧ 0 ≤ (qFr q).toInt ∧ (qFr q).toInt ≤ (qTo q).toInt ∧ (qTo q).toInt ≤ 60))
def PRn (n1 : Nat → Int64) (nb : Nat → Int32) (q : TX11_q) (N ba : Nat) : Prop := NmRel n1 nb q N ∧ ∀ j, j < N → qsort q j = 0 → 0 ≤ (qnumb q j).toInt ∧ (qnumb q j).toInt < ba
def PRa (p : TX6_p) (q : TX11_q) (as : Nat) : Prop := ∀ j, j < as → pRe p j = qRe q j ∧ 0 ≤ (qRe q j).toInt ∧ (qRe q j).toInt ≤ 3
def PRw (p : TX6_p) (q : TX11_q) (an ba : Nat) : Prop := ∀ j, j < an → (pKi p j = qKi q j ∧ 0 ≤ (qKi q j).toInt ∧ (qKi q j).toInt ≤ 3) ∧ (pAt p j = qSt q j ∧ 0 ≤ (qSt q j).toInt ∧ (qSt q j).toInt < (qSp q).toInt) ∧ (pDp p j = qDp q j ∧ 1 ≤ (qDp q j).toInt ∧ (qDp q j).toInt ≤ (qDe q).toInt) ∧ (pHu p j = qHu q j ∧ 0 ≤ (qHu q j).toInt ∧ (qHu q j).toInt ≤ 99) ∧ (pLi p j = qLi q j ∧ 0 ≤ (qLi q j).toInt ∧ (qLi q j).toInt < ba) ∧ (pTo p j = qWo q j ∧ 0 ≤ (qWo q j).toInt ∧ (qWo q j).toInt ≤ 99)
def PRb (p : TX6_p) (q : TX11_q) (bi ba : Nat) : Prop := ∀ j, j < bi → pBt p j = f_X10_question (qBs q j) (qBd q j) (qBb q j) ∧ (0 ≤ (qBs q j).toInt ∧ (qBs q j).toInt < (qSp q).toInt) ∧ (1 ≤ (qBd q j).toInt ∧ (qBd q j).toInt ≤ (qDe q).toInt) ∧ (0 ≤ (qBb q j).toInt ∧ (qBb q j).toInt < ba) ∧ pBl p j = qBl q j ∧ (qBl q j = 0 ∨ qBl q j = 1)
def PR (p : TX6_p) (q : TX11_q) (n1 : Nat → Int64) (nb : Nat → Int32) (N : Nat) : Prop := ∃ ba as an bi : Nat, PRc p q ba as an bi N ∧ PRh p q N bi ∧ PRn n1 nb q N ba ∧ PRa p q as ∧ PRw p q an ba ∧ PRb p q bi ba
/-- how a line ends: both have read it, or both have found the same fault at the same place -/
def LOk (T : Nat → Int32) (fed a : Int32) (e s : Nat) (x : Option (Int32 × TX7_r × TX6_p)) (y : Option (TX12_s × TX11_q)) : Prop := ∃ s' v n1 nb N pl num wr w p' q', s < s' ∧ s' ≤ e ∧ x = some (1, RD T fed e s' (v, n1, nb, nI N, 0, pl), p') ∧ y = some (MD T a e s' num 0 wr w, q') ∧ MW T e s' num w ∧ PR p' q' n1 nb N
def LNo (T : Nat → Int32) (fed a : Int32) (e : Nat) (x : Option (Int32 × TX7_r × TX6_p)) (y : Option (TX12_s × TX11_q)) : Prop := ∃ k z v n1 nb ns p' m' q', (1 ≤ k.toInt ∧ k.toInt ≤ 6) ∧ z ≤ e ∧ x = some (0, RD T fed e z (v, n1, nb, ns, k, nI z), p') ∧ y = some (m', q') ∧ DEAD T a k z m'
def Line (T : Nat → Int32) (fed a : Int32) (e s : Nat) (x : Option (Int32 × TX7_r × TX6_p)) (y : Option (TX12_s × TX11_q)) : Prop := LOk T fed a e s x y ∨ LNo T fed a e x y
/-! a line is opened -/
theorem x_open0 {T : Nat → Int32} {fed v ns fa pl : Int32} {n1 : Nat → Int64} {nb : Nat → Int32} {e s : Nat} {p : TX6_p} (h : pSp p = 0) : f_X7_opens 0 (RD T fed e s (v, n1, nb, ns, fa, pl)) p = some (0, RD T fed e s (v, n1, nb, ns, 6, nI s)) := by
  rw [f_X7_opens, if_pos rfl, if_pos h, nm, x_fail]
theorem x_open1 {T : Nat → Int32} {fed v ns fa pl : Int32} {n1 : Nat → Int64} {nb : Nat → Int32} {e s : Nat} {p : TX6_p} (he : e ≤ 900) (hs : s ≤ e) (h : ¬ pSp p = 0) : f_X7_opens 0 (RD T fed e s (v, n1, nb, ns, fa, pl)) p = some (1, RD T fed e (nxt T e s) (v, n1, nb, ns, fa, pl)) := by
  rw [f_X7_opens, if_pos rfl, if_neg h, x_adv he hs, Option.bind_some]
theorem x_openk {T : Nat → Int32} {fed v ns fa pl k : Int32} {n1 : Nat → Int64} {nb : Nat → Int32} {e s : Nat} {p : TX6_p} (h : ¬ k = 0) : f_X7_opens k (RD T fed e s (v, n1, nb, ns, fa, pl)) p = some (0, RD T fed e s (v, n1, nb, ns, k, nI s)) := by
  rw [f_X7_opens, if_neg h, nm, x_fail]
theorem m_begin {T : Nat → Int32} {a num wr x y : Int32} {w : Int64} {e s : Nat} {q : TX11_q} (hT : ∀ j, byt (T j)) (he : e ≤ 900) (hs : s ≤ e) (h4 : ¬ tkk T e s = 4) (hxy : ¬ x = y) (h : ¬ qSp q = 0) : ∃ num' w', f_X12_lineBegins x y (MD T a e s num 0 wr w) q = some (MD T a e (nxt T e s) num' 0 wr w') ∧ MW T e (nxt T e s) num' w' := by
  obtain ⟨num', w', g1, g2⟩ := m_adv (a := a) (num := num) (fa := 0) (wr := wr) (w := w) hT he hs h4
  exact ⟨num', w', by rw [f_X12_lineBegins, if_neg hxy, f_X12_lineBegins_J10, if_neg h, f_X12_lineBegins_J26, g1, Option.bind_some], g2⟩
theorem m_begin5 {T : Nat → Int32} {a num wr x : Int32} {w : Int64} {e s : Nat} {q : TX11_q} : ∃ m', f_X12_lineBegins x x (MD T a e s num 0 wr w) q = some m' ∧ DEAD T a 5 s m' := by
  have hd := @m_flaw T a 5 num 0 wr w e s
  exact ⟨_, by rw [f_X12_lineBegins, if_pos rfl, nm, f_X12_lineBegins_J10, nm, d_flaw hd.2.2.1, ite_self, f_X12_lineBegins_J26, m_dead hd.2.2.1, Option.bind_some], hd⟩
theorem m_begin6 {T : Nat → Int32} {a num wr x y : Int32} {w : Int64} {e s : Nat} {q : TX11_q} (hxy : ¬ x = y) (h : qSp q = 0) : ∃ m', f_X12_lineBegins x y (MD T a e s num 0 wr w) q = some m' ∧ DEAD T a 6 s m' := by
  have hd := @m_flaw T a 6 num 0 wr w e s
  exact ⟨_, by rw [f_X12_lineBegins, if_neg hxy, f_X12_lineBegins_J10, if_pos h, nm, f_X12_lineBegins_J26, m_dead hd.2.2.1, Option.bind_some], hd⟩
theorem nxt_lt {T : Nat → Int32} {e s : Nat} (h : tkk T e s = 1) : s < nxt T e s ∧ nxt T e s ≤ e := by
  obtain ⟨h1, h2, h3, h4, h5, h6, h7⟩ := tk_word h
  have hn := @tks_le T e (tkb T e s) h6
  unfold nxt
  omega
/-- a name is put by on both sides -/
def addN (q : TX11_q) (c : Int64) (so nu : Int32) (N : Nat) : TX11_q := (q.1, q.2.1, q.2.2.1, q.2.2.2.1, q.2.2.2.2.1, q.2.2.2.2.2.1, q.2.2.2.2.2.2.1, q.2.2.2.2.2.2.2.1, q.2.2.2.2.2.2.2.2.1, nI (N + 1), q.2.2.2.2.2.2.2.2.2.2.1, q.2.2.2.2.2.2.2.2.2.2.2.1, q.2.2.2.2.2.2.2.2.2.2.2.2.1, q.2.2.2.2.2.2.2.2.2.2.2.2.2.1, q.2.2.2.2.2.2.2.2.2.2.2.2.2.2.1, q.2.2.2.2.2.2.2.2.2.2.2.2.2.2.2.1, q.2.2.2.2.2.2.2.2.2.2.2.2.2.2.2.2.1, q.2.2.2.2.2.2.2.2.2.2.2.2.2.2.2.2.2.1, q.2.2.2.2.2.2.2.2.2.2.2.2.2.2.2.2.2.2.1, q.2.2.2.2.2.2.2.2.2.2.2.2.2.2.2.2.2.2.2.1, q.2.2.2.2.2.2.2.2.2.2.2.2.2.2.2.2.2.2.2.2.1, vp_updL (qname q) N c, upd (qsort q) N so, upd (qnumb q) N nu)
theorem m_names {q : TX11_q} {c : Int64} {so nu : Int32} {N : Nat} (hr : qnames q = nI N) (hN : N < 15) : f_X12_names c so nu q = some (addN q c so nu N) := by
  rw [f_X12_names, show q.2.2.2.2.2.2.2.2.2.1 = nI N from hr, gA_in (vin hN (by omega)), gA_in (vin hN (by omega)), gA_in (vin hN (by omega)), nI_clamp (by omega), nIs]
  rfl
theorem nm_add {n1 : Nat → Int64} {nb : Nat → Int32} {q : TX11_q} {N ba ba' : Nat} {c : Int64} {so nu bt : Int32} (h : PRn n1 nb q N ba) (hb : ba ≤ ba') (hx : (so = 0 ∧ bt = nu ∧ 0 ≤ nu.toInt ∧ nu.toInt < ba') ∨ (¬ so = 0 ∧ bt = -1)) : PRn (vp_updL n1 N c) (upd nb N bt) (addN q c so nu N) (N + 1) ba' := by
  obtain ⟨h1, h2⟩ := h
  constructor
  · intro j hj
    by_cases e : j = N
    · subst e
      refine ⟨by rw [pk_uLs]; exact pk_uLs.symm, ?_⟩
      show (upd (qsort q) j so j = 0 ∧ upd nb j bt j = upd (qnumb q) j nu j ∧ ¬ upd nb j bt j = -1) ∨ (¬ upd (qsort q) j so j = 0 ∧ upd nb j bt j = -1)
      rw [pk_us, pk_us, pk_us]
      rcases hx with ⟨x1, x2, x3, x4⟩ | ⟨x1, x2⟩
      · exact Or.inl ⟨x1, x2, by rw [x2, fa_eq, ltv_m1]; omega⟩
      · exact Or.inr ⟨x1, x2⟩
    · have := h1 j (by omega)
      refine ⟨by rw [pk_uLn e]; exact this.1.trans (pk_uLn e).symm, ?_⟩
      show (upd (qsort q) N so j = 0 ∧ upd nb N bt j = upd (qnumb q) N nu j ∧ ¬ upd nb N bt j = -1) ∨ (¬ upd (qsort q) N so j = 0 ∧ upd nb N bt j = -1)
      rw [pk_un e, pk_un e, pk_un e]
      exact this.2
  · intro j hj
    show upd (qsort q) N so j = 0 → 0 ≤ (upd (qnumb q) N nu j).toInt ∧ (upd (qnumb q) N nu j).toInt < ba'
    by_cases e : j = N
    · subst e
      rw [pk_us, pk_us]
      intro h0
      rcases hx with ⟨x1, x2, x3, x4⟩ | ⟨x1, x2⟩
      · exact ⟨x3, x4⟩
      · exact absurd h0 x1
    · rw [pk_un e, pk_un e]
      intro h0
      have := h2 j (by omega) h0
      omega
