/-! live states of the two readers at the token that starts at s; dead ones -/
abbrev TL7 : Type := Int32 × (Nat → Int64) × (Nat → Int32) × Int32 × Int32 × Int32
def RD (T : Nat → Int32) (fed : Int32) (e s : Nat) (tl : TL7) : TX7_r := (T, fed, nI e, tkk T e s, nI s, nI (tkb T e s), tl)
def MD (T : Nat → Int32) (a : Int32) (e s : Nat) (num fa wr : Int32) (w : Int64) : TX12_s := (T, a, nI e, nI (mspot T e s), mso (tkk T e s), nI s, num, fa, wr, w)
/-- what the reference has put by of the token -/
def MW (T : Nat → Int32) (e s : Nat) (num : Int32) (w : Int64) : Prop := (tkk T e s = 1 → w = wcode T (tkb T e s - s) s 0) ∧ (tkk T e s = 2 → num = ncode T (tkb T e s - s) s 0)
def DEAD (T : Nat → Int32) (a k : Int32) (s : Nat) (m : TX12_s) : Prop := m.1 = T ∧ m.2.1 = a ∧ m.2.2.2.2.1 = 5 ∧ m.2.2.2.2.2.2.2.1 = k ∧ m.2.2.2.2.2.2.2.2.1 = nI s
theorem mso_ne5 {k : Int32} : ¬ mso k = 5 := by
  unfold mso
  repeat' split
  all_goals decide
theorem mso_2 {T : Nat → Int32} {e s : Nat} : mso (tkk T e s) = 2 ↔ tkk T e s = 1 := by
  rcases @tkk_5 T e s with h | h | h | h | h <;> rw [h] <;> decide
theorem mso_3 {T : Nat → Int32} {e s : Nat} : mso (tkk T e s) = 3 ↔ tkk T e s = 2 := by
  rcases @tkk_5 T e s with h | h | h | h | h <;> rw [h] <;> decide
theorem mso_4 {T : Nat → Int32} {e s : Nat} : mso (tkk T e s) = 4 ↔ tkk T e s = 3 := by
  rcases @tkk_5 T e s with h | h | h | h | h <;> rw [h] <;> decide
theorem mso_1 {T : Nat → Int32} {e s : Nat} : mso (tkk T e s) = 1 ↔ tkk T e s = 0 := by
  rcases @tkk_5 T e s with h | h | h | h | h <;> rw [h] <;> decide
theorem mspot_tkb {T : Nat → Int32} {e s : Nat} (h : ¬ tkk T e s = 4) : mspot T e s = tkb T e s := by
  unfold mspot tkb
  by_cases c0 : e ≤ s
  · rw [if_pos c0, if_pos c0]
  · rw [if_neg c0, if_neg c0]
    by_cases c1 : isLt (T s) = true
    · rw [if_pos c1, if_pos c1]
    · rw [if_neg c1, if_neg c1]
      by_cases c2 : isDg (T s) = true
      · rw [if_pos c2, if_pos c2]
      · rw [if_neg c2, if_neg c2]
        by_cases c3 : T s = 59
        · rw [if_pos c3]
        · exfalso
          apply h
          rw [tkk, if_neg c0, if_neg c1, if_neg c2, if_neg c3]
theorem mw_new {T : Nat → Int32} {e s : Nat} {num : Int32} {w : Int64} : MW T e s (mnum T e s num) (mword T e s w) := by
  constructor
  · intro h
    obtain ⟨h1, h2, h3, h4, h5, h6, h7⟩ := tk_word h
    rw [mword, if_neg (by omega), if_pos h2, ← h3, wcc_eq _ _ _ _ (by omega)]
  · intro h
    obtain ⟨h1, h2, h2', h3, h4, h5, h6, h7⟩ := tk_whole h
    rw [mnum, if_neg (by omega), if_neg (by rw [h2']; decide), if_pos h2, ← h3, ncc_eq _ _ _ _ (by omega)]
theorem x_adv {T : Nat → Int32} {fed : Int32} {e s : Nat} {tl : TL7} (he : e ≤ 900) (hs : s ≤ e) : f_X7_advance (RD T fed e s tl) = some (RD T fed e (nxt T e s) tl) := x_advance he (tkb_le hs).2
theorem m_adv {T : Nat → Int32} {a num fa wr : Int32} {w : Int64} {e s : Nat} (hT : ∀ j, byt (T j)) (he : e ≤ 900) (hs : s ≤ e) (h4 : ¬ tkk T e s = 4) : ∃ num' w', f_X12_goesOn (MD T a e s num fa wr w) = some (MD T a e (nxt T e s) num' fa wr w') ∧ MW T e (nxt T e s) num' w' := by
  refine ⟨mnum T e (nxt T e s) num, mword T e (nxt T e s) w, ?_, mw_new⟩
  unfold MD
  rw [mspot_tkb h4]
  exact m_goesOn hT he (tkb_le hs).2 mso_ne5
theorem i32_hi (x : Int32) : -2147483648 ≤ x.toInt ∧ x.toInt ≤ 2147483647 := by
  have h1 := Int32.le_toInt x
  have h2 := Int32.toInt_lt x
  omega
theorem isw_kind {T : Nat → Int32} {e s : Nat} {w : List Int32} (h : isw T e s w = true) : tkk T e s = 1 := by
  unfold isw at h
  rw [Bool.and_eq_true, Bool.and_eq_true, decide_eq_true_eq] at h
  exact h.1.1
theorem x_isw {T : Nat → Int32} {fed : Int32} {e s : Nat} {tl : TL7} {w : List Int32} (hw : wok w = true) (he : e ≤ 900) : f_X7_isWord w (RD T fed e s tl) = some (if isw T e s w = true then 1 else 0) := by
  obtain ⟨w1, w2, w3⟩ := wok_of hw
  rw [f_X7_isWord]
  unfold RD
  dsimp only
  by_cases c : tkk T e s = 1
  · obtain ⟨h1, h2, h3, h4, h5, h6, h7⟩ := tk_word c
    rw [if_pos c, pk_sub (by omega)]
    by_cases c2 : tkb T e s - s = w.length
    · rw [if_pos (by rw [c2])]
      have := x_isWord_L hw (r := (T, fed, nI e, tkk T e s, nI s, nI (tkb T e s), tl)) (s := s) rfl (by omega) w.length FU 0 (FU_big (by omega)) (by omega)
      rw [nI_0] at this
      rw [this]
      unfold isw
      rw [decide_eq_true c, decide_eq_true c2, Bool.true_and, Bool.true_and]
    · rw [if_neg (fun z => c2 ((nI_eq (by omega) (by omega)).mp z)), if_neg]
      unfold isw
      rw [decide_eq_false c2, Bool.and_false, Bool.false_and]
      decide
  · rw [if_neg c, if_neg]
    unfold isw
    rw [decide_eq_false c, Bool.false_and, Bool.false_and]
    decide
theorem m_isw {T : Nat → Int32} {a num fa wr : Int32} {w0 : Int64} {e s : Nat} {w : List Int32} (hw : wok w = true) (hm : MW T e s num w0) : f_X12_isWord w (MD T a e s num fa wr w0) = some (if isw T e s w = true then 1 else 0) := by
  obtain ⟨w1, w2, w3⟩ := wok_of hw
  rw [f_X12_isWord]
  unfold MD
  dsimp only
  by_cases c : tkk T e s = 1
  · obtain ⟨h1, h2, h3, h4, h5, h6, h7⟩ := tk_word c
    rw [if_pos (mso_2.mpr c), m_packed hw, Option.bind_some, hm.1 c]
    have hi := wcode_inj (g := T) (g' := fun j => w.getD j 0) (i := s) (i' := 0) (n := tkb T e s - s) (n' := w.length) h4 w2 h7 (fun j hj => by rw [Nat.zero_add]; exact w3 j hj)
    have hq : isw T e s w = true ↔ (tkb T e s - s = w.length ∧ ∀ j, j < tkb T e s - s → T (s + j) = w.getD (0 + j) 0) := by
      unfold isw
      rw [decide_eq_true c, Bool.true_and, Bool.and_eq_true, decide_eq_true_eq, weq_iff]
      constructor
      · rintro ⟨q1, q2⟩
        exact ⟨q1, fun j hj => by have := q2 j (by omega); rw [Nat.zero_add] at this ⊢; exact this⟩
      · rintro ⟨q1, q2⟩
        exact ⟨q1, fun j hj => by have := q2 j (by omega); rw [Nat.zero_add] at this ⊢; exact this⟩
    by_cases c2 : isw T e s w = true
    · rw [if_pos c2, if_pos (lgc0.mpr (hi.mpr (hq.mp c2)))]
    · rw [if_neg c2, if_neg (fun z => c2 (hq.mpr (hi.mp (lgc0.mp z))))]
  · rw [if_neg (fun z => c (mso_2.mp z)), if_neg]
    unfold isw
    rw [decide_eq_false c, Bool.false_and, Bool.false_and]
    decide
theorem x_fail {T : Nat → Int32} {fed k v ns fa pl : Int32} {n1 : Nat → Int64} {nb : Nat → Int32} {e s : Nat} : f_X7_fail k (RD T fed e s (v, n1, nb, ns, fa, pl)) = RD T fed e s (v, n1, nb, ns, k, nI s) := rfl
theorem m_flaw {T : Nat → Int32} {a k num fa wr : Int32} {w : Int64} {e s : Nat} : DEAD T a k s (f_X12_flaw k (MD T a e s num fa wr w)) := by
  rw [f_X12_flaw]
  unfold MD
  dsimp only
  rw [if_neg mso_ne5]
  exact ⟨rfl, rfl, rfl, rfl, rfl⟩
/-! dead: nothing happens any more -/
theorem d_flaw {k : Int32} {m : TX12_s} (h : m.2.2.2.2.1 = 5) : f_X12_flaw k m = m := by
  rw [f_X12_flaw, if_pos h]
theorem d_isWord {w : List Int32} {m : TX12_s} (h : m.2.2.2.2.1 = 5) : f_X12_isWord w m = some 0 := by
  rw [f_X12_isWord, if_neg (by rw [h]; decide)]
theorem d_needs {w : List Int32} {m : TX12_s} (h : m.2.2.2.2.1 = 5) : f_X12_needs w m = some m := by
  rw [f_X12_needs, d_isWord h, Option.bind_some, if_pos rfl, nm, d_flaw h, f_X12_needs_J13, m_dead h, Option.bind_some]
theorem d_readWhole {lo hi : Int32} {m : TX12_s} (h : m.2.2.2.2.1 = 5) : f_X12_readWhole lo hi m = some (lo, m) := by
  rw [f_X12_readWhole, if_neg (by rw [h]; decide), nm, d_flaw h, f_X12_readWhole_J33, if_pos h, f_X12_readWhole_J49, m_dead h, Option.bind_some]
theorem d_readPart {w : List Int32} {lo hi : Int32} {m : TX12_s} (h : m.2.2.2.2.1 = 5) : f_X12_readPart w lo hi m = some (lo, m) := by
  rw [f_X12_readPart, d_needs h, Option.bind_some, d_readWhole h, Option.bind_some]
theorem d_isName {m : TX12_s} (h : m.2.2.2.2.1 = 5) : f_X12_isName m = some 0 := by
  rw [f_X12_isName, if_neg (by rw [h]; decide)]
theorem d_lineBegins {x y : Int32} {m : TX12_s} {q : TX11_q} (h : m.2.2.2.2.1 = 5) : f_X12_lineBegins x y m q = some m := by
  rw [f_X12_lineBegins, nm, d_flaw h, ite_self, f_X12_lineBegins_J10, nm, d_flaw h, ite_self, f_X12_lineBegins_J26, m_dead h, Option.bind_some]
theorem d_eats {m : TX12_s} (h : m.2.2.2.2.1 = 5) : f_X12_eatsSemicolon m = some (0, m) := by
  rw [f_X12_eatsSemicolon, if_neg (by rw [h]; decide), f_X12_eatsSemicolon_J13, if_pos rfl, f_X12_eatsSemicolon_J22]
/-! the pairs -/
theorem p_word {T : Nat → Int32} {fed a v ns fa pl num wr : Int32} {n1 : Nat → Int64} {nb : Nat → Int32} {w0 : Int64} {e s : Nat} {w : List Int32} (hw : wok w = true) (hT : ∀ j, byt (T j)) (he : e ≤ 900) (hs : s ≤ e) (hm : MW T e s num w0) :
    (s < nxt T e s ∧ nxt T e s ≤ e ∧ f_X7_takeWord w (RD T fed e s (v, n1, nb, ns, fa, pl)) = some (1, RD T fed e (nxt T e s) (v, n1, nb, ns, fa, pl)) ∧ ∃ num' w', f_X12_needs w (MD T a e s num 0 wr w0) = some (MD T a e (nxt T e s) num' 0 wr w') ∧ MW T e (nxt T e s) num' w') ∨
    (f_X7_takeWord w (RD T fed e s (v, n1, nb, ns, fa, pl)) = some (0, RD T fed e s (v, n1, nb, ns, 1, nI s)) ∧ ∃ m', f_X12_needs w (MD T a e s num 0 wr w0) = some m' ∧ DEAD T a 1 s m') := by
  rw [f_X7_takeWord, f_X12_needs, x_isw hw he, m_isw hw hm, Option.bind_some, Option.bind_some]
  by_cases c : isw T e s w = true
  · left
    have hk := isw_kind c
    obtain ⟨h1, h2, h3, h4, h5, h6, h7⟩ := tk_word hk
    have hn := @tks_le T e (tkb T e s) h6
    obtain ⟨num', w', g1, g2⟩ := m_adv (a := a) (num := num) (fa := 0) (wr := wr) (w := w0) hT he hs (by rw [hk]; decide)
    refine ⟨by unfold nxt; omega, by unfold nxt; omega, ?_, num', w', ?_, g2⟩
    · rw [if_neg (by rw [if_pos c]; decide), x_adv he hs, Option.bind_some]
    · rw [if_neg (by rw [if_pos c]; decide), f_X12_needs_J13, g1, Option.bind_some]
  · right
    have hd := @m_flaw T a 1 num 0 wr w0 e s
    refine ⟨by rw [if_pos (by rw [if_neg c]), nm, x_fail], _, ?_, hd⟩
    rw [if_pos (by rw [if_neg c]), nm, f_X12_needs_J13, m_dead hd.2.2.1, Option.bind_some]
