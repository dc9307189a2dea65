/-! kinds, yes and no -/
theorem w_plain : wok tx_plain = true := by decide
theorem w_cold : wok tx_cold = true := by decide
theorem w_crab : wok tx_crab = true := by decide
theorem w_boot : wok tx_boot = true := by decide
theorem w_yes : wok tx_yes = true := by decide
theorem w_no : wok tx_no = true := by decide
/-- the kind that the word at s tells; -1 -/
def kindOf (T : Nat → Int32) (e s : Nat) : Int32 := if isw T e s tx_plain = true then 0 else if isw T e s tx_cold = true then 1 else if isw T e s tx_crab = true then 2 else if isw T e s tx_boot = true then 3 else -1
theorem kindOf_r {T : Nat → Int32} {e s : Nat} : kindOf T e s = -1 ∨ (tkk T e s = 1 ∧ (kindOf T e s = 0 ∨ kindOf T e s = 1 ∨ kindOf T e s = 2 ∨ kindOf T e s = 3)) := by
  unfold kindOf
  by_cases c1 : isw T e s tx_plain = true
  · rw [if_pos c1]; exact Or.inr ⟨isw_kind c1, Or.inl rfl⟩
  · rw [if_neg c1]
    by_cases c2 : isw T e s tx_cold = true
    · rw [if_pos c2]; exact Or.inr ⟨isw_kind c2, Or.inr (Or.inl rfl)⟩
    · rw [if_neg c2]
      by_cases c3 : isw T e s tx_crab = true
      · rw [if_pos c3]; exact Or.inr ⟨isw_kind c3, Or.inr (Or.inr (Or.inl rfl))⟩
      · rw [if_neg c3]
        by_cases c4 : isw T e s tx_boot = true
        · rw [if_pos c4]; exact Or.inr ⟨isw_kind c4, Or.inr (Or.inr (Or.inr rfl))⟩
        · rw [if_neg c4]; exact Or.inl rfl
theorem x_kind {T : Nat → Int32} {fed v ns fa pl : Int32} {n1 : Nat → Int64} {nb : Nat → Int32} {e s : Nat} (he : e ≤ 900) (hs : s ≤ e) : f_X7_takeKind (RD T fed e s (v, n1, nb, ns, fa, pl)) = if kindOf T e s = -1 then some (0, RD T fed e s (v, n1, nb, ns, 1, nI s)) else some (1, RD T fed e (nxt T e s) (kindOf T e s, n1, nb, ns, fa, pl)) := by
  have ja : ∀ k, f_X7_takeKind_J74 (RD T fed e s (k, n1, nb, ns, fa, pl)) = some (1, RD T fed e (nxt T e s) (k, n1, nb, ns, fa, pl)) := fun k => by
    rw [f_X7_takeKind_J74, x_adv he hs, Option.bind_some]
  rw [f_X7_takeKind, x_isw w_plain he, x_isw w_cold he, x_isw w_crab he, x_isw w_boot he]
  simp only [Option.bind_some, b01]
  unfold kindOf
  cases isw T e s tx_plain
  · cases isw T e s tx_cold
    · cases isw T e s tx_crab
      · cases isw T e s tx_boot
        · simp only [if_true, Bool.false_eq_true, if_false]
          rw [nm, x_fail]
        · simp only [if_true, Bool.false_eq_true, if_false, Bool.true_eq_false]
          rw [if_neg (by decide)]
          exact ja 3
      · simp only [if_true, Bool.false_eq_true, if_false, Bool.true_eq_false]
        rw [if_neg (by decide)]
        exact ja 2
    · simp only [if_true, Bool.false_eq_true, if_false, Bool.true_eq_false]
      rw [if_neg (by decide)]
      exact ja 1
  · simp only [if_true, Bool.true_eq_false, if_false]
    rw [if_neg (by decide)]
    exact ja 0
/-- yes: 1, no: 0; -1 -/
def yesOf (T : Nat → Int32) (e s : Nat) : Int32 := if isw T e s tx_yes = true then 1 else if isw T e s tx_no = true then 0 else -1
theorem x_yes {T : Nat → Int32} {fed v ns fa pl : Int32} {n1 : Nat → Int64} {nb : Nat → Int32} {e s : Nat} (he : e ≤ 900) (hs : s ≤ e) : f_X7_takeYes (RD T fed e s (v, n1, nb, ns, fa, pl)) = if yesOf T e s = -1 then some (0, RD T fed e s (v, n1, nb, ns, 1, nI s)) else some (1, RD T fed e (nxt T e s) (yesOf T e s, n1, nb, ns, fa, pl)) := by
  have ja : ∀ k, f_X7_takeYes_J39 (RD T fed e s (v, n1, nb, ns, fa, pl)) k = some (1, RD T fed e (nxt T e s) (k, n1, nb, ns, fa, pl)) := fun k => by
    rw [f_X7_takeYes_J39]
    show (f_X7_advance (RD T fed e s (k, n1, nb, ns, fa, pl))).bind _ = _
    rw [x_adv he hs, Option.bind_some]
  rw [f_X7_takeYes, f_X7_takeYes_J24, x_isw w_yes he, x_isw w_no he]
  simp only [Option.bind_some, b01, ja]
  unfold yesOf
  cases isw T e s tx_yes
  · cases isw T e s tx_no
    · simp only [if_true, Bool.false_eq_true, if_false]
      rw [nm, x_fail]
    · simp only [if_true, Bool.false_eq_true, if_false, Bool.true_eq_false]
      rw [if_neg (by decide)]
  · simp only [if_true, Bool.true_eq_false, if_false]
    rw [if_neg (by decide)]
