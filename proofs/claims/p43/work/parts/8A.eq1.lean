/-! class and reference over one pier: numbers -/
def aI (x : Int) : Int := if 0 ≤ x then x else -x
theorem aI_neg (x y : Int) : aI (x - y) = aI (y - x) := by
  unfold aI
  by_cases h : 0 ≤ x - y
  · by_cases h2 : 0 ≤ y - x
    · rw [if_pos h, if_pos h2]
      omega
    · rw [if_pos h, if_neg h2]
      omega
  · rw [if_neg h, if_pos (by omega)]
    omega
theorem aI_b {x : Int} {n : Int} (h1 : -n ≤ x) (h2 : x ≤ n) : 0 ≤ aI x ∧ aI x ≤ n := by
  unfold aI
  by_cases h : 0 ≤ x
  · rw [if_pos h]
    omega
  · rw [if_neg h]
    omega
theorem iabs_t {x : Int32} (h1 : -1000000 ≤ x.toInt) (h2 : x.toInt ≤ 1000000) : (iabs x).toInt = aI x.toInt := by
  unfold iabs aI
  by_cases h : 0 ≤ x.toInt
  · rw [if_pos (show (0 : Int32) ≤ x by rw [fa_le, ltv_0]; exact h), if_pos h]
  · rw [if_neg (show ¬ (0 : Int32) ≤ x by rw [fa_le, ltv_0]; exact h), if_neg h, isub_t (by rw [ltv_0]; omega) (by rw [ltv_0]; omega), ltv_0]
    omega
theorem apart_t {x y : Int32} (h1 : -1000000 ≤ x.toInt) (h2 : x.toInt ≤ 1000000) (h3 : -1000000 ≤ y.toInt) (h4 : y.toInt ≤ 1000000) : (f_X12_apart x y).toInt = aI (x.toInt - y.toInt) := by
  unfold f_X12_apart aI
  by_cases h : y.toInt ≤ x.toInt
  · rw [if_pos (show y ≤ x by rw [fa_le]; exact h), if_pos (by omega), isub_t (by omega) (by omega)]
  · rw [if_neg (show ¬ y ≤ x by rw [fa_le]; exact h), if_neg (by omega), isub_t (by omega) (by omega)]
    omega
def cI (x : Int) : Int := if x < 0 then 0 else if 100 < x then 100 else x
theorem cut_t (x : Int32) : (f_X11_cut x).toInt = cI x.toInt := by
  unfold f_X11_cut cI
  by_cases h : 0 ≤ x.toInt
  · rw [if_pos (show (0 : Int32) ≤ x by rw [fa_le, ltv_0]; exact h), if_neg (show ¬ x.toInt < 0 by omega)]
    by_cases h2 : x.toInt ≤ 100
    · rw [if_pos (show x ≤ (100 : Int32) by rw [fa_le, ltv_100]; exact h2), if_neg (show ¬ 100 < x.toInt by omega)]
    · rw [if_neg (show ¬ x ≤ (100 : Int32) by rw [fa_le, ltv_100]; exact h2), if_pos (show 100 < x.toInt by omega), ltv_100]
  · rw [if_neg (show ¬ (0 : Int32) ≤ x by rw [fa_le, ltv_0]; exact h), if_pos (show x.toInt < 0 by omega), ltv_0]
theorem mm_t (x : Int32) : (imax 0 (imin 100 x)).toInt = cI x.toInt := by
  unfold imax imin cI
  by_cases h : x.toInt < 100
  · rw [if_pos (show x < (100 : Int32) by rw [fa_lt, ltv_100]; exact h)]
    by_cases h2 : 0 < x.toInt
    · rw [if_pos (show (0 : Int32) < x by rw [fa_lt, ltv_0]; exact h2), if_neg (by omega), if_neg (by omega)]
    · rw [if_neg (show ¬ (0 : Int32) < x by rw [fa_lt, ltv_0]; exact h2), ltv_0]
      by_cases h3 : x.toInt < 0
      · rw [if_pos h3]
      · rw [if_neg h3, if_neg (by omega)]
        omega
  · rw [if_neg (show ¬ x < (100 : Int32) by rw [fa_lt, ltv_100]; exact h), if_pos (show (0 : Int32) < 100 by decide), ltv_100, if_neg (by omega)]
    by_cases h3 : 100 < x.toInt
    · rw [if_pos h3]
    · rw [if_neg h3]
      omega
/-- what both have of one pier -/
def PQ (p : TX6_p) (q : TX11_q) (sp de ba as an bi cf ct : Nat) : Prop := (pSp p = nI sp ∧ qSp q = nI sp ∧ 2 ≤ sp ∧ sp ≤ 8) ∧ (pDe p = nI de ∧ qDe q = nI de ∧ 1 ≤ de ∧ de ≤ 9) ∧ (pCf p = nI cf ∧ qFr q = nI cf ∧ pCt p = nI ct ∧ qTo q = nI ct ∧ cf ≤ ct ∧ ct ≤ 60) ∧ (pBa p = nI ba ∧ qBa q = nI ba ∧ 1 ≤ ba ∧ ba ≤ 4) ∧ (pAs p = nI as ∧ qAs q = nI as ∧ as ≤ 5) ∧ (pAn p = nI an ∧ qAn q = nI an ∧ an ≤ 6) ∧ (pBi p = nI bi ∧ qBi q = nI bi ∧ bi ≤ 6) ∧ (pDk p = qDk q ∧ -1 ≤ (qDk q).toInt ∧ (qDk q).toInt ≤ 99) ∧ PRa p q as ∧ PRw p q an ba ∧ PRb p q bi ba
theorem pq_of {p : TX6_p} {q : TX11_q} {n1 : Nat → Int64} {nb : Nat → Int32} {N : Nat} (h : PR p q n1 nb N) (hb : ¬ qBa q = 0) : ∃ sp de ba as an bi cf ct, PQ p q sp de ba as an bi cf ct := by
  obtain ⟨ba, as, an, bi, hc, hh, hn, ha, hw, hbt⟩ := h
  obtain ⟨c1, c2, c3, c4, c5, c6, c7, c8, c9, c10, c11, c12, c13, c14⟩ := hc
  obtain ⟨a1, a2, a3, ⟨a4, a4'⟩, a5, a6⟩ := hh
  have hba : ¬ ba = 0 := fun z => hb (by rw [c2, z]; rfl)
  rcases a6 with ⟨-, z, -⟩ | ⟨b1, b2, b3, b4, b5, b6, b7, b8, b9⟩
  · omega
  have nn : ∀ {x : Int32}, 0 ≤ x.toInt → ∃ j : Nat, j < 2 ^ 31 ∧ x = nI j ∧ x.toInt = (j : Int) := fun {x} hx => by
    obtain ⟨j, hj, e⟩ := inn_of hx
    exact ⟨j, hj, e, by rw [e, nI_toInt hj]⟩
  obtain ⟨sp, hsp, es, es'⟩ := nn (x := qSp q) (by omega)
  obtain ⟨de, hde, ed, ed'⟩ := nn (x := qDe q) (by omega)
  obtain ⟨cf, hcf, ef, ef'⟩ := nn (x := qFr q) (by omega)
  obtain ⟨ct, hct, et, et'⟩ := nn (x := qTo q) (by omega)
  exact ⟨sp, de, ba, as, an, bi, cf, ct, ⟨a1.trans es, es, by omega, by omega⟩, ⟨a2.trans ed, ed, by omega, by omega⟩, ⟨b5.trans ef, ef, b6.trans et, et, by omega, by omega⟩, ⟨c1, c2, by omega, c3⟩, ⟨c4, c5, c6⟩, ⟨c7, c8, c9⟩, ⟨c10, c11, c12⟩, ⟨a3, a4, a4'⟩, ha, hw, hbt⟩
/-! who is asked for, and what with -/
def inN (k : Int32) (n : Nat) : Prop := 0 ≤ k.toInt ∧ k.toInt < (n : Int)
theorem inN_of {k : Int32} {n : Nat} (h : inN k n) : ∃ a : Nat, a < n ∧ k = nI a := by
  obtain ⟨j, hj, e⟩ := inn_of h.1
  refine ⟨j, ?_, e⟩
  have := h.2
  rw [e, nI_toInt hj] at this
  omega
theorem wi_n {k : Int32} {n : Nat} (hn : n ≤ 100000) : (inN k n → f_X10_within k 0 (nI n - 1) = 1) ∧ (¬ inN k n → f_X10_within k 0 (nI n - 1) = 0) := by
  have e : (nI n - 1 : Int32).toInt = (n : Int) - 1 := by
    rw [isub_t (by rw [nI_toInt (by omega), ltv_1]; omega) (by rw [nI_toInt (by omega), ltv_1]; omega), nI_toInt (by omega), ltv_1]
  unfold f_X10_within inN
  constructor
  · intro h
    rw [if_neg (by rw [fa_lt, ltv_0]; omega), if_neg (by rw [fa_lt, e]; omega)]
  · intro h
    by_cases c : k < 0
    · rw [if_pos c]
    · rw [if_neg c, if_pos]
      rw [fa_lt, ltv_0] at c
      rw [fa_lt, e]
      omega
theorem wi_r {k : Int32} {a b : Nat} (hb : b ≤ 100000) (ha : a ≤ 100000) : ((a : Int) ≤ k.toInt ∧ k.toInt ≤ (b : Int) → f_X10_within k (nI a) (nI b) = 1) ∧ (¬ ((a : Int) ≤ k.toInt ∧ k.toInt ≤ (b : Int)) → f_X10_within k (nI a) (nI b) = 0) := by
  unfold f_X10_within
  constructor
  · intro h
    rw [if_neg (by rw [fa_lt, nI_toInt (by omega)]; omega), if_neg (by rw [fa_lt, nI_toInt (by omega)]; omega)]
  · intro h
    by_cases c : k < nI a
    · rw [if_pos c]
    · rw [if_neg c, if_pos]
      rw [fa_lt, nI_toInt (by omega)] at c
      rw [fa_lt, nI_toInt (by omega)]
      omega
theorem in_wi (a b c : Int32) : f_X12_in a b c = f_X10_within a b c := rfl
theorem is_n {k x : Int32} {n : Nat} (hx : x = nI n) (hn : n ≤ 100000) : (inN k n → (if k < (0 : Int32) then (0 : Int32) else (if x ≤ k then (0 : Int32) else (1 : Int32))) = 1) ∧ (¬ inN k n → (if k < (0 : Int32) then (0 : Int32) else (if x ≤ k then (0 : Int32) else (1 : Int32))) = 0) := by
  subst hx
  unfold inN
  constructor
  · intro h
    rw [if_neg (by rw [fa_lt, ltv_0]; omega), if_neg (by rw [fa_le, nI_toInt (by omega)]; omega)]
  · intro h
    by_cases c : k < 0
    · rw [if_pos c]
    · rw [if_neg c, if_pos]
      rw [fa_lt, ltv_0] at c
      rw [fa_le, nI_toInt (by omega)]
      omega
section TROUBLE
variable {p : TX6_p} {q : TX11_q} {sp de ba as an bi cf ct : Nat}
theorem ref_0 (x : TX10_x) : f_X10_refused 0 x = (0, (0, x.2)) := rfl
theorem ref_n {v : Int32} (h : ¬ v = 0) (x : TX10_x) : f_X10_refused v x = (1, (v, x.2)) := if_neg h
theorem pt_0 (h : PQ p q sp de ba as an bi cf ct) : f_X10_pierTrouble p = 0 := by
  obtain ⟨⟨h1, h2, h3, h4⟩, -⟩ := h
  unfold f_X10_pierTrouble
  rw [if_neg]
  rw [show p.1 = nI sp from h1]
  exact nI_ne0 (by omega) (by omega)
theorem nt_1 (h : PQ p q sp de ba as an bi cf ct) : f_X10_numberTrouble 1 p = 0 := by
  unfold f_X10_numberTrouble
  dsimp only [nm]
  rw [pt_0 h, if_pos rfl, if_neg one_ne]
  rfl
theorem nt_0 (h : PQ p q sp de ba as an bi cf ct) : f_X10_numberTrouble 0 p = 2 := by
  unfold f_X10_numberTrouble
  dsimp only [nm]
  rw [pt_0 h, if_pos rfl, if_pos rfl]
theorem hasAn (h : PQ p q sp de ba as an bi cf ct) (k : Int32) : (inN k an → f_X6_hasAnswer k p = 1 ∧ f_X12_isAnswer k q = 1) ∧ (¬ inN k an → f_X6_hasAnswer k p = 0 ∧ f_X12_isAnswer k q = 0) := by
  obtain ⟨-, -, -, -, -, ⟨h1, h2, h3⟩, -⟩ := h
  unfold f_X6_hasAnswer f_X12_isAnswer nm
  rw [show p.2.2.2.2.2.2.1 = nI an from h1]
  exact ⟨fun c => ⟨(wi_n (by omega)).1 c, (is_n h2 (by omega)).1 c⟩, fun c => ⟨(wi_n (by omega)).2 c, (is_n h2 (by omega)).2 c⟩⟩
theorem hasAs (h : PQ p q sp de ba as an bi cf ct) (k : Int32) : (inN k as → f_X6_hasAsker k p = 1 ∧ f_X12_isAsker k q = 1) ∧ (¬ inN k as → f_X6_hasAsker k p = 0 ∧ f_X12_isAsker k q = 0) := by
  obtain ⟨-, -, -, -, ⟨h1, h2, h3⟩, -⟩ := h
  unfold f_X6_hasAsker f_X12_isAsker nm
  rw [show p.2.2.2.2.2.1 = nI as from h1]
  exact ⟨fun c => ⟨(wi_n (by omega)).1 c, (is_n h2 (by omega)).1 c⟩, fun c => ⟨(wi_n (by omega)).2 c, (is_n h2 (by omega)).2 c⟩⟩
theorem hasSp (h : PQ p q sp de ba as an bi cf ct) (k : Int32) : (inN k sp → f_X6_hasSpot k p = 1 ∧ f_X12_in k 0 (q.1 - 1) = 1) ∧ (¬ inN k sp → f_X6_hasSpot k p = 0 ∧ f_X12_in k 0 (q.1 - 1) = 0) := by
  obtain ⟨⟨h1, h2, h3, h4⟩, -⟩ := h
  unfold f_X6_hasSpot nm
  rw [in_wi, show p.1 = nI sp from h1, show q.1 = nI sp from h2]
  exact ⟨fun c => ⟨(wi_n (by omega)).1 c, (wi_n (by omega)).1 c⟩, fun c => ⟨(wi_n (by omega)).2 c, (wi_n (by omega)).2 c⟩⟩
theorem hasBa (h : PQ p q sp de ba as an bi cf ct) (k : Int32) : (inN k ba → f_X6_hasBait k p = 1 ∧ f_X12_in k 0 (q.2.2.2.2.1 - 1) = 1) ∧ (¬ inN k ba → f_X6_hasBait k p = 0 ∧ f_X12_in k 0 (q.2.2.2.2.1 - 1) = 0) := by
  obtain ⟨-, -, -, ⟨h1, h2, h3, h4⟩, -⟩ := h
  unfold f_X6_hasBait nm
  rw [in_wi, show p.2.2.2.2.1 = nI ba from h1, show q.2.2.2.2.1 = nI ba from h2]
  exact ⟨fun c => ⟨(wi_n (by omega)).1 c, (wi_n (by omega)).1 c⟩, fun c => ⟨(wi_n (by omega)).2 c, (wi_n (by omega)).2 c⟩⟩
def inF (k : Int32) (n : Nat) : Prop := (1 : Int) ≤ k.toInt ∧ k.toInt ≤ (n : Int)
theorem hasFa (h : PQ p q sp de ba as an bi cf ct) (k : Int32) : (inF k de → f_X10_within k 1 p.2.1 = 1 ∧ f_X12_in k 1 q.2.1 = 1) ∧ (¬ inF k de → f_X10_within k 1 p.2.1 = 0 ∧ f_X12_in k 1 q.2.1 = 0) := by
  obtain ⟨-, ⟨h1, h2, h3, h4⟩, -⟩ := h
  rw [in_wi, show p.2.1 = nI de from h1, show q.2.1 = nI de from h2]
  exact ⟨fun c => ⟨(wi_r (a := 1) (by omega) (by omega)).1 c, (wi_r (a := 1) (by omega) (by omega)).1 c⟩, fun c => ⟨(wi_r (a := 1) (by omega) (by omega)).2 c, (wi_r (a := 1) (by omega) (by omega)).2 c⟩⟩
/-- why a question can't be: the same on both sides -/
theorem qt_eq (h : PQ p q sp de ba as an bi cf ct) (s f b : Int32) : (f_X10_questionTrouble s f b p = 1 ∧ f_X12_refusesQuestion 1 s f b q = 1) ∨ (f_X10_questionTrouble s f b p = 2 ∧ f_X12_refusesQuestion 1 s f b q = 2) ∨ (f_X10_questionTrouble s f b p = 0 ∧ f_X12_refusesQuestion 1 s f b q = 0 ∧ inN s sp ∧ inF f de ∧ inN b ba) := by
  unfold f_X10_questionTrouble f_X12_refusesQuestion
  dsimp only [nm]
  rw [if_neg one_ne]
  by_cases c1 : inN s sp
  · obtain ⟨e1, e2⟩ := (hasSp h s).1 c1
    rw [e1, e2, if_neg one_ne, if_neg one_ne]
    by_cases c2 : inN b ba
    · obtain ⟨e3, e4⟩ := (hasBa h b).1 c2
      rw [e3, e4, if_neg one_ne, if_neg one_ne]
      by_cases c3 : inF f de
      · obtain ⟨e5, e6⟩ := (hasFa h f).1 c3
        rw [e5, e6, if_neg one_ne]
        exact Or.inr (Or.inr ⟨rfl, rfl, c1, c3, c2⟩)
      · obtain ⟨e5, e6⟩ := (hasFa h f).2 c3
        rw [e5, e6, if_pos rfl]
        exact Or.inr (Or.inl ⟨rfl, rfl⟩)
    · obtain ⟨e3, e4⟩ := (hasBa h b).2 c2
      rw [e3, e4, if_pos rfl, if_pos rfl]
      exact Or.inl ⟨rfl, rfl⟩
  · obtain ⟨e1, e2⟩ := (hasSp h s).2 c1
    rw [e1, e2, if_pos rfl, if_pos rfl]
    exact Or.inl ⟨rfl, rfl⟩
theorem wt_eq (h : PQ p q sp de ba as an bi cf ct) (a s f b : Int32) : ∃ tr : Int32, f_X10_wishTrouble a s f b p = tr ∧ f_X12_refusesQuestion (f_X12_isAnswer a q) s f b q = tr ∧ ((tr = 1 ∨ tr = 2) ∨ (tr = 0 ∧ inN a an ∧ inN s sp ∧ inF f de ∧ inN b ba)) := by
  unfold f_X10_wishTrouble f_X10_answerTrouble
  dsimp only [nm]
  by_cases c : inN a an
  · obtain ⟨e1, e2⟩ := (hasAn h a).1 c
    rw [e1, e2, if_neg one_ne, if_pos rfl]
    rcases qt_eq h s f b with ⟨g1, g2⟩ | ⟨g1, g2⟩ | ⟨g1, g2, g3, g4, g5⟩
    · exact ⟨1, g1, g2, Or.inl (Or.inl rfl)⟩
    · exact ⟨2, g1, g2, Or.inl (Or.inr rfl)⟩
    · exact ⟨0, g1, g2, Or.inr ⟨rfl, c, g3, g4, g5⟩⟩
  · obtain ⟨e1, e2⟩ := (hasAn h a).2 c
    rw [e1, e2, if_pos rfl, if_neg one_ne]
    exact ⟨1, rfl, rfl, Or.inl (Or.inl rfl)⟩
end TROUBLE
