/-! numbers, names -/
theorem one_ne : ¬ (1 : Int32) = 0 := by decide
theorem x_whole_L {lo hi : Int32} {T : Nat → Int32} {fed : Int32} {e s : Nat} {tl : TL7} (he : e ≤ 900) (hb : tkb T e s ≤ e) : ∀ n fuel i c, n < fuel → i + n = tkb T e s → f_X7_takeWhole_L22 lo hi (RD T fed e s tl) fuel (nI i) c = nm (f_X10_within (ncode T n i c) lo hi) (fun (o56 : Int32) => if o56 = (0 : Int32) then nm (f_X7_fail (4 : Int32) (RD T fed e s tl)) (fun (o64 : TX7_r) => some ((0 : Int32), o64)) else (f_X7_advance (RD T fed e s (ncode T n i c, tl.2))).bind (fun (o74 : TX7_r) => some ((1 : Int32), o74))) := by
  intro n
  induction n with
  | zero =>
    intro fuel i c hf hq
    obtain ⟨fuel, rfl⟩ : ∃ k, fuel = k + 1 := ⟨fuel - 1, by omega⟩
    rw [f_X7_takeWhole_L22, if_pos (show (RD T fed e s tl).2.2.2.2.2.1 ≤ nI i from nI_le (by omega) (by omega)), ncode]
    rfl
  | succ n ih =>
    intro fuel i c hf hq
    obtain ⟨fuel, rfl⟩ : ∃ k, fuel = k + 1 := ⟨fuel - 1, by omega⟩
    rw [f_X7_takeWhole_L22, if_neg (show ¬ (RD T fed e s tl).2.2.2.2.2.1 ≤ nI i from nI_ge (by omega) (by omega)), gA_in (vin (by omega) (by omega)), nI_clamp (by omega), nIs]
    show f_X7_takeWhole_L22 lo hi (RD T fed e s tl) fuel (nI (i + 1)) (10 * c + T i - 48) = _
    rw [ih fuel (i + 1) _ (by omega) (by omega), ncode]
theorem in_same {x lo hi : Int32} : f_X12_in x lo hi = f_X10_within x lo hi := rfl
theorem within_1 {x lo hi : Int32} (h : ¬ f_X10_within x lo hi = 0) : lo ≤ x ∧ x ≤ hi := by
  rw [f_X10_within] at h
  by_cases c1 : x < lo
  · rw [if_pos c1] at h; exact absurd rfl h
  · rw [if_neg c1] at h
    by_cases c2 : hi < x
    · rw [if_pos c2] at h; exact absurd rfl h
    · exact ⟨Int32.not_lt.mp c1, Int32.not_lt.mp c2⟩
theorem p_whole {lo hi : Int32} {T : Nat → Int32} {fed a v ns fa pl num wr : Int32} {n1 : Nat → Int64} {nb : Nat → Int32} {w0 : Int64} {e s : Nat} (hT : ∀ j, byt (T j)) (he : e ≤ 900) (hs : s ≤ e) (hm : MW T e s num w0) :
    (s < nxt T e s ∧ nxt T e s ≤ e ∧ ∃ x, lo ≤ x ∧ x ≤ hi ∧ f_X7_takeWhole lo hi (RD T fed e s (v, n1, nb, ns, fa, pl)) = some (1, RD T fed e (nxt T e s) (x, n1, nb, ns, fa, pl)) ∧ ∃ num' w', f_X12_readWhole lo hi (MD T a e s num 0 wr w0) = some (x, MD T a e (nxt T e s) num' 0 wr w') ∧ MW T e (nxt T e s) num' w') ∨
    (∃ k, (k = 1 ∨ k = 4) ∧ f_X7_takeWhole lo hi (RD T fed e s (v, n1, nb, ns, fa, pl)) = some (0, RD T fed e s (v, n1, nb, ns, k, nI s)) ∧ ∃ m' x, f_X12_readWhole lo hi (MD T a e s num 0 wr w0) = some (x, m') ∧ DEAD T a k s m') := by
  rw [f_X7_takeWhole, f_X12_readWhole]
  by_cases c : tkk T e s = 2
  · obtain ⟨h1, h2, h2', h3, h4, h5, h6, h7⟩ := tk_whole c
    have hn := @tks_le T e (tkb T e s) h6
    rw [if_pos (show (RD T fed e s (v, n1, nb, ns, fa, pl)).2.2.2.1 = 2 from c), if_pos (show (MD T a e s num 0 wr w0).2.2.2.2.1 = 3 from mso_3.mpr c)]
    rw [show (RD T fed e s (v, n1, nb, ns, fa, pl)).2.2.2.2.1 = nI s from rfl, x_whole_L he h6 (tkb T e s - s) FU s 0 (FU_big (by omega)) (by omega), show (MD T a e s num 0 wr w0).2.2.2.2.2.2.1 = num from rfl, hm.2 c, in_same]
    simp only [nm]
    by_cases c2 : f_X10_within (ncode T (tkb T e s - s) s 0) lo hi = 0
    · right
      have hd := @m_flaw T a 4 num 0 wr w0 e s
      refine ⟨4, Or.inr rfl, by rw [if_pos c2, x_fail], _, lo, ?_, hd⟩
      rw [if_pos c2, f_X12_readWhole_J33, if_pos (by rw [← hm.2 c]; exact hd.2.2.1), f_X12_readWhole_J49, m_dead (by rw [← hm.2 c]; exact hd.2.2.1), Option.bind_some, ← hm.2 c]
    · left
      obtain ⟨num', w', g1, g2⟩ := m_adv (a := a) (num := num) (fa := 0) (wr := wr) (w := w0) hT he hs (by rw [c]; decide)
      refine ⟨by unfold nxt; omega, by unfold nxt; omega, ncode T (tkb T e s - s) s 0, (within_1 c2).1, (within_1 c2).2, ?_, num', w', ?_, g2⟩
      · rw [if_neg c2, x_adv he hs, Option.bind_some]
      · rw [if_neg c2, f_X12_readWhole_J33, if_neg (show ¬ (MD T a e s (ncode T (tkb T e s - s) s 0) 0 wr w0).2.2.2.2.1 = 5 from mso_ne5), f_X12_readWhole_J49, ← hm.2 c, g1, Option.bind_some]
        rfl
  · right
    have hd := @m_flaw T a 1 num 0 wr w0 e s
    refine ⟨1, Or.inl rfl, by rw [if_neg (show ¬ (RD T fed e s (v, n1, nb, ns, fa, pl)).2.2.2.1 = 2 from c), nm, x_fail], _, lo, ?_, hd⟩
    rw [if_neg (show ¬ (MD T a e s num 0 wr w0).2.2.2.2.1 = 3 from fun z => c (mso_3.mp z)), nm, f_X12_readWhole_J33, if_pos hd.2.2.1, f_X12_readWhole_J49, m_dead hd.2.2.1, Option.bind_some]
/-- a part of a line: a word, then a number -/
theorem c_part {w : List Int32} (hw : wok w = true) {lo hi : Int32} {T : Nat → Int32} {fed a v ns fa pl num wr : Int32} {n1 : Nat → Int64} {nb : Nat → Int32} {w0 : Int64} {e s : Nat} (hT : ∀ j, byt (T j)) (he : e ≤ 900) (hs : s ≤ e) (hm : MW T e s num w0) :
    (∃ s2 x, s < s2 ∧ s2 ≤ e ∧ lo ≤ x ∧ x ≤ hi ∧ (∀ (P1 P2 : TX6_p) (B : Int32 × TX7_r → Option (Int32 × TX7_r × TX6_p)), (f_X7_takeWord w (RD T fed e s (v, n1, nb, ns, fa, pl))).bind (fun (o : Int32 × TX7_r) => if o.1 = (0 : Int32) then some ((0 : Int32), o.2, P1) else (f_X7_takeWhole lo hi o.2).bind (fun (o2 : Int32 × TX7_r) => if o2.1 = (0 : Int32) then some ((0 : Int32), o2.2, P2) else B o2)) = B (1, RD T fed e s2 (x, n1, nb, ns, fa, pl))) ∧ ∃ num' w', f_X12_readPart w lo hi (MD T a e s num 0 wr w0) = some (x, MD T a e s2 num' 0 wr w') ∧ MW T e s2 num' w') ∨
    (∃ k z, (1 ≤ k.toInt ∧ k.toInt ≤ 6) ∧ z ≤ e ∧ (∀ (P1 P2 : TX6_p) (B : Int32 × TX7_r → Option (Int32 × TX7_r × TX6_p)), ∃ P, (f_X7_takeWord w (RD T fed e s (v, n1, nb, ns, fa, pl))).bind (fun (o : Int32 × TX7_r) => if o.1 = (0 : Int32) then some ((0 : Int32), o.2, P1) else (f_X7_takeWhole lo hi o.2).bind (fun (o2 : Int32 × TX7_r) => if o2.1 = (0 : Int32) then some ((0 : Int32), o2.2, P2) else B o2)) = some (0, RD T fed e z (v, n1, nb, ns, k, nI z), P)) ∧ ∃ m' y, f_X12_readPart w lo hi (MD T a e s num 0 wr w0) = some (y, m') ∧ DEAD T a k z m') := by
  rcases p_word (fed := fed) (a := a) (v := v) (ns := ns) (fa := fa) (pl := pl) (n1 := n1) (nb := nb) (wr := wr) hw hT he hs hm with ⟨h1, h2, h3, num', w', h4, h5⟩ | ⟨h3, m', h4, h5⟩
  · rcases p_whole (lo := lo) (hi := hi) (fed := fed) (a := a) (v := v) (ns := ns) (fa := fa) (pl := pl) (n1 := n1) (nb := nb) (wr := wr) hT he h2 h5 with ⟨g1, g2, x, g3, g4, g5, num2, w2, g6, g7⟩ | ⟨k, hk, g5, m', x, g6, g7⟩
    · left
      refine ⟨_, x, Nat.lt_trans h1 g1, g2, g3, g4, fun P1 P2 B => ?_, num2, w2, ?_, g7⟩
      · rw [h3, Option.bind_some, if_neg one_ne, g5, Option.bind_some, if_neg one_ne]
      · rw [f_X12_readPart, h4, Option.bind_some, g6, Option.bind_some]
    · right
      refine ⟨k, _, by rcases hk with rfl | rfl <;> decide, h2, fun P1 P2 B => ⟨P2, ?_⟩, m', x, ?_, g7⟩
      · rw [h3, Option.bind_some, if_neg one_ne, g5, Option.bind_some, if_pos rfl]
      · rw [f_X12_readPart, h4, Option.bind_some, g6, Option.bind_some]
  · right
    refine ⟨1, _, by decide, hs, fun P1 P2 B => ⟨P1, ?_⟩, m', lo, ?_, h5⟩
    · rw [h3, Option.bind_some, if_pos rfl]
    · rw [f_X12_readPart, h4, Option.bind_some, d_readWhole h5.2.2.1, Option.bind_some]
/-! names -/
def isNm (T : Nat → Int32) (e s : Nat) : Bool := decide (tkk T e s = 1) && !isw T e s tx_pier && !isw T e s tx_bait && !isw T e s tx_asker && !isw T e s tx_answer && !isw T e s tx_dark && !isw T e s tx_bite
theorem w_pier : wok tx_pier = true := by decide
theorem w_bait : wok tx_bait = true := by decide
theorem w_asker : wok tx_asker = true := by decide
theorem w_answer : wok tx_answer = true := by decide
theorem w_dark : wok tx_dark = true := by decide
theorem w_bite : wok tx_bite = true := by decide
theorem b01 {b : Bool} : ((if b = true then (1 : Int32) else 0) = 0) ↔ b = false := by
  cases b <;> decide
theorem x_isName {T : Nat → Int32} {fed : Int32} {e s : Nat} {tl : TL7} (he : e ≤ 900) : f_X7_isName (RD T fed e s tl) = some (if isNm T e s = true then 1 else 0) := by
  rw [f_X7_isName, x_isw w_pier he, x_isw w_bait he, x_isw w_asker he, x_isw w_answer he, x_isw w_dark he, x_isw w_bite he]
  simp only [Option.bind_some, b01]
  unfold isNm
  by_cases c : tkk T e s = 1
  · rw [if_pos (show (RD T fed e s tl).2.2.2.1 = 1 from c), decide_eq_true c]
    cases isw T e s tx_pier <;> cases isw T e s tx_bait <;> cases isw T e s tx_asker <;> cases isw T e s tx_answer <;> cases isw T e s tx_dark <;> cases isw T e s tx_bite <;> rfl
  · rw [if_neg (show ¬ (RD T fed e s tl).2.2.2.1 = 1 from c), decide_eq_false c]
    rfl
theorem m_isName {T : Nat → Int32} {a num fa wr : Int32} {w0 : Int64} {e s : Nat} (hm : MW T e s num w0) : f_X12_isName (MD T a e s num fa wr w0) = some (if isNm T e s = true then 1 else 0) := by
  rw [f_X12_isName, m_isw w_pier hm, m_isw w_bait hm, m_isw w_asker hm, m_isw w_answer hm, m_isw w_dark hm, m_isw w_bite hm]
  simp only [Option.bind_some, b01]
  unfold isNm
  by_cases c : tkk T e s = 1
  · rw [if_pos (show (MD T a e s num fa wr w0).2.2.2.2.1 = 2 from mso_2.mpr c), decide_eq_true c]
    cases isw T e s tx_pier <;> cases isw T e s tx_bait <;> cases isw T e s tx_asker <;> cases isw T e s tx_answer <;> cases isw T e s tx_dark <;> cases isw T e s tx_bite <;> rfl
  · rw [if_neg (show ¬ (MD T a e s num fa wr w0).2.2.2.2.1 = 2 from fun z => c (mso_2.mp z)), decide_eq_false c]
    rfl
theorem isNm_kind {T : Nat → Int32} {e s : Nat} (h : isNm T e s = true) : tkk T e s = 1 := by
  unfold isNm at h
  simp only [Bool.and_eq_true, decide_eq_true_eq] at h
  exact h.1.1.1.1.1.1
theorem wstep {c : Int64} {x : Int32} (h : isLt x = true) : 32 * c + x.toInt64 - 97 + 1 = 32 * c + (x - 97 + 1).toInt64 := by
  obtain ⟨h1, h2, h3, h4⟩ := dig_of h
  rw [h3]
  generalize hd : dig x = d at h1 h2 h4
  rw [h4, nI_l (by omega)]
  have e1 : lN (d + 96) - 97 + 1 = lN d := by
    rw [show (97 : Int64) = lN 97 from rfl, lN_sub (by omega), lN_1]
    congr 1
    omega
  rw [← e1]
  simp only [Int64.sub_eq_add_neg, Int64.add_assoc]
theorem x_code_L {T : Nat → Int32} {fed : Int32} {e s : Nat} {tl : TL7} (he : e ≤ 900) (hb : tkb T e s ≤ e) : ∀ n fuel i c, n < fuel → i + n = tkb T e s → (∀ j, i ≤ j → j < tkb T e s → isLt (T j) = true) → f_X7_wordCode_L7 (RD T fed e s tl) fuel (nI i) c = some (wcode T n i c) := by
  intro n
  induction n with
  | zero =>
    intro fuel i c hf hi _
    obtain ⟨fuel, rfl⟩ : ∃ k, fuel = k + 1 := ⟨fuel - 1, by omega⟩
    rw [f_X7_wordCode_L7, if_pos (show (RD T fed e s tl).2.2.2.2.2.1 ≤ nI i from nI_le (by omega) (by omega)), wcode]
  | succ n ih =>
    intro fuel i c hf hi hl
    obtain ⟨fuel, rfl⟩ : ∃ k, fuel = k + 1 := ⟨fuel - 1, by omega⟩
    rw [f_X7_wordCode_L7, if_neg (show ¬ (RD T fed e s tl).2.2.2.2.2.1 ≤ nI i from nI_ge (by omega) (by omega)), gA_in (vin (by omega) (by omega)), nI_clamp (by omega), nIs]
    show f_X7_wordCode_L7 (RD T fed e s tl) fuel (nI (i + 1)) (32 * c + (T i).toInt64 - 97 + 1) = _
    rw [wstep (hl i (Nat.le_refl _) (by omega)), ih fuel (i + 1) _ (by omega) (by omega) (fun j h1 h2 => hl j (by omega) h2), wcode]
theorem x_code {T : Nat → Int32} {fed : Int32} {e s : Nat} {tl : TL7} (he : e ≤ 900) (h : tkk T e s = 1) : f_X7_wordCode (RD T fed e s tl) = some (wcode T (tkb T e s - s) s 0) := by
  obtain ⟨h1, h2, h3, h4, h5, h6, h7⟩ := tk_word h
  rw [f_X7_wordCode]
  exact x_code_L he h6 _ FU s 0 (FU_big (by omega)) (by omega) (fun j g1 g2 => by have := h7 (j - s) (by omega); rwa [show s + (j - s) = j from by omega] at this)
/-- the place of a name among the first n from i on; -1 -/
def fnd (nm0 : Nat → Int64) (c : Int64) : Nat → Nat → Int32
  | 0, _ => -1
  | n + 1, i => if nm0 i = c then nI i else fnd nm0 c n (i + 1)
theorem fnd_range {nm0 : Nat → Int64} {c : Int64} : ∀ n i, fnd nm0 c n i = -1 ∨ ∃ j, i ≤ j ∧ j < i + n ∧ fnd nm0 c n i = nI j ∧ nm0 j = c := by
  intro n
  induction n with
  | zero => intro i; exact Or.inl rfl
  | succ n ih =>
    intro i
    rw [fnd]
    by_cases h : nm0 i = c
    · rw [if_pos h]
      exact Or.inr ⟨i, Nat.le_refl _, by omega, rfl, h⟩
    · rw [if_neg h]
      rcases ih (i + 1) with g | ⟨j, g1, g2, g3⟩
      · exact Or.inl g
      · exact Or.inr ⟨j, by omega, by omega, g3⟩
theorem fnd_congr {n1 n2 : Nat → Int64} {c : Int64} : ∀ n i, (∀ j, i ≤ j → j < i + n → n1 j = n2 j) → fnd n1 c n i = fnd n2 c n i := by
  intro n
  induction n with
  | zero => intro i _; rfl
  | succ n ih =>
    intro i h
    rw [fnd, fnd, h i (Nat.le_refl _) (by omega), ih (i + 1) (fun j g1 g2 => h j (by omega) (by omega))]
theorem nI_m1 {i : Nat} (h : i < 2 ^ 31) : ¬ nI i = -1 := by
  rw [fa_eq, nI_toInt h, ltv_m1]
  omega
theorem fnd_snoc {nm0 : Nat → Int64} {c : Int64} : ∀ n i, i + n < 2 ^ 31 → fnd nm0 c (n + 1) i = if fnd nm0 c n i = -1 then (if nm0 (i + n) = c then nI (i + n) else -1) else fnd nm0 c n i := by
  intro n
  induction n with
  | zero =>
    intro i _
    rw [show fnd nm0 c 0 i = -1 from rfl, if_pos rfl, Nat.add_zero]
    rfl
  | succ n ih =>
    intro i hi
    rw [fnd, ih (i + 1) (by omega), fnd]
    by_cases h : nm0 i = c
    · rw [if_pos h, if_pos h, if_neg (nI_m1 (by omega))]
    · rw [if_neg h, if_neg h, show i + 1 + n = i + (n + 1) from by omega]
theorem x_nameOf_L {c : Int64} {r : TX7_r} {N : Nat} (hr : r.2.2.2.2.2.2.2.2.2.1 = nI N) (hN : N ≤ 15) : ∀ n fuel i, n < fuel → i + n = N → f_X7_nameOf_L2 c r fuel (nI i) = some (fnd r.2.2.2.2.2.2.2.1 c n i) := by
  intro n
  induction n with
  | zero =>
    intro fuel i hf hi
    obtain ⟨fuel, rfl⟩ : ∃ k, fuel = k + 1 := ⟨fuel - 1, by omega⟩
    rw [f_X7_nameOf_L2, hr, if_pos (nI_le (by omega) (by omega)), fnd]
  | succ n ih =>
    intro fuel i hf hi
    obtain ⟨fuel, rfl⟩ : ∃ k, fuel = k + 1 := ⟨fuel - 1, by omega⟩
    rw [f_X7_nameOf_L2, hr, if_neg (nI_ge (by omega) (by omega)), gA_in (vin (by omega) (by omega)), nI_clamp (by omega), nIs, ih fuel (i + 1) (by omega) (by omega), fnd]
    by_cases h : r.2.2.2.2.2.2.2.1 i = c
    · rw [if_pos h, if_pos (lgc0.mpr h)]
    · rw [if_neg h, if_neg (fun z => h (lgc0.mp z))]
theorem x_nameOf {c : Int64} {r : TX7_r} {N : Nat} (hr : r.2.2.2.2.2.2.2.2.2.1 = nI N) (hN : N ≤ 15) : f_X7_nameOf c r = some (fnd r.2.2.2.2.2.2.2.1 c N 0) := by
  rw [f_X7_nameOf]
  have := x_nameOf_L (c := c) hr hN N FU 0 (FU_big (by omega)) (by omega)
  rw [nI_0] at this
  exact this
theorem x_nameOfR {c : Int64} {T : Nat → Int32} {fed v fa pl : Int32} {n1 : Nat → Int64} {nb : Nat → Int32} {e s N : Nat} (hN : N ≤ 15) : f_X7_nameOf c (RD T fed e s (v, n1, nb, nI N, fa, pl)) = some (fnd n1 c N 0) := x_nameOf (r := RD T fed e s (v, n1, nb, nI N, fa, pl)) rfl hN
/-- names of the reference's pier -/
abbrev qnames (q : TX11_q) : Int32 := q.2.2.2.2.2.2.2.2.2.1
abbrev qname (q : TX11_q) : Nat → Int64 := q.2.2.2.2.2.2.2.2.2.2.2.2.2.2.2.2.2.2.2.2.2.1
abbrev qsort (q : TX11_q) : Nat → Int32 := q.2.2.2.2.2.2.2.2.2.2.2.2.2.2.2.2.2.2.2.2.2.2.1
abbrev qnumb (q : TX11_q) : Nat → Int32 := q.2.2.2.2.2.2.2.2.2.2.2.2.2.2.2.2.2.2.2.2.2.2.2
theorem m_find_L {c : Int64} {q : TX11_q} {N : Nat} (hr : q.2.2.2.2.2.2.2.2.2.1 = nI N) (hN : N ≤ 15) : ∀ n fuel i, n < fuel → i + n = N → f_X11_find_L2 c q fuel (nI i) = some (fnd (qname q) c n i) := by
  intro n
  induction n with
  | zero =>
    intro fuel i hf hi
    obtain ⟨fuel, rfl⟩ : ∃ k, fuel = k + 1 := ⟨fuel - 1, by omega⟩
    rw [f_X11_find_L2, hr, if_pos (nI_le (by omega) (by omega)), fnd]
  | succ n ih =>
    intro fuel i hf hi
    obtain ⟨fuel, rfl⟩ : ∃ k, fuel = k + 1 := ⟨fuel - 1, by omega⟩
    rw [f_X11_find_L2, hr, if_neg (nI_ge (by omega) (by omega)), gA_in (vin (by omega) (by omega)), nI_clamp (by omega), nIs, ih fuel (i + 1) (by omega) (by omega), fnd, nm]
    by_cases h : qname q i = c
    · rw [if_pos h, if_pos (lgc0.mpr h)]
    · rw [if_neg h, if_neg (fun z => h (lgc0.mp z))]
theorem m_find {c : Int64} {q : TX11_q} {N : Nat} (hr : qnames q = nI N) (hN : N ≤ 15) : f_X11_find c q = some (fnd (qname q) c N 0) := by
  rw [f_X11_find]
  have := m_find_L (c := c) hr hN N FU 0 (FU_big (by omega)) (by omega)
  rw [nI_0] at this
  exact this
