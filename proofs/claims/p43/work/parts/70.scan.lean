/-! the two scanners, on natural numbers -/
theorem ltv_97 : (97 : Int32).toInt = 97 := by decide
theorem ltv_122 : (122 : Int32).toInt = 122 := by decide
def isSp (b : Int32) : Bool := b == 32
def isLt (b : Int32) : Bool := decide (97 ≤ b) && decide (b ≤ 122)
def isDg (b : Int32) : Bool := decide (48 ≤ b) && decide (b ≤ 57)
/-- how far from i on, n places at most, P holds -/
def scn (P : Int32 → Bool) (T : Nat → Int32) : Nat → Nat → Nat
  | 0, i => i
  | n + 1, i => if P (T i) = true then scn P T n (i + 1) else i
theorem scn_le {P : Int32 → Bool} {T : Nat → Int32} : ∀ n i, i ≤ scn P T n i ∧ scn P T n i ≤ i + n := by
  intro n
  induction n with
  | zero => intro i; exact ⟨Nat.le_refl _, Nat.le_refl _⟩
  | succ n ih =>
    intro i
    rw [scn]
    by_cases h : P (T i) = true
    · rw [if_pos h]
      have := ih (i + 1)
      omega
    · rw [if_neg h]
      omega
theorem scn_in {P : Int32 → Bool} {T : Nat → Int32} : ∀ n i j, i ≤ j → j < scn P T n i → P (T j) = true := by
  intro n
  induction n with
  | zero => intro i j h1 h2; rw [scn] at h2; omega
  | succ n ih =>
    intro i j h1 h2
    rw [scn] at h2
    by_cases h : P (T i) = true
    · rw [if_pos h] at h2
      by_cases e : i = j
      · rw [← e]; exact h
      · exact ih (i + 1) j (by omega) h2
    · rw [if_neg h] at h2
      omega
theorem scn_out {P : Int32 → Bool} {T : Nat → Int32} : ∀ n i, scn P T n i < i + n → P (T (scn P T n i)) = false := by
  intro n
  induction n with
  | zero => intro i h; rw [scn] at h; omega
  | succ n ih =>
    intro i h
    rw [scn] at h ⊢
    by_cases c : P (T i) = true
    · rw [if_pos c] at h ⊢
      exact ih (i + 1) (by omega)
    · rw [if_neg c] at h ⊢
      simpa using c
theorem nIs {i : Nat} : nI i + (1 : Int32) = nI (i + 1) := nI_1 i
theorem vin {i n : Nat} (h : i < n) (hn : n ≤ 900) : vp_in (nI i) n := vp_in_nI h (by omega)
/-- class: letters and digits -/
theorem x_isLetter {i : Nat} {r : TX7_r} (h : i < 900) : f_X7_isLetter (nI i) r = some (if isLt (r.1 i) = true then 1 else 0) := by
  rw [f_X7_isLetter, gA_in (vin h (by omega)), nI_clamp (by omega)]
  unfold isLt
  by_cases c1 : r.1 i < 97
  · rw [if_pos c1, if_neg (by
      rw [Bool.and_eq_true, decide_eq_true_eq, decide_eq_true_eq, fa_le, ltv_97]
      rw [fa_lt, ltv_97] at c1
      omega)]
  · rw [if_neg c1, gA_in (vin h (by omega))]
    by_cases c2 : 122 < r.1 i
    · rw [if_pos c2, if_neg (by
        rw [Bool.and_eq_true, decide_eq_true_eq, decide_eq_true_eq, fa_le (r.1 i), ltv_122]
        rw [fa_lt, ltv_122] at c2
        omega)]
    · rw [if_neg c2, if_pos (by
        rw [Bool.and_eq_true, decide_eq_true_eq, decide_eq_true_eq]
        exact ⟨Int32.not_lt.mp c1, Int32.not_lt.mp c2⟩)]
theorem x_isDigit {i : Nat} {r : TX7_r} (h : i < 900) : f_X7_isDigit (nI i) r = some (if isDg (r.1 i) = true then 1 else 0) := by
  rw [f_X7_isDigit, gA_in (vin h (by omega)), nI_clamp (by omega)]
  unfold isDg
  by_cases c1 : r.1 i < 48
  · rw [if_pos c1, if_neg (by
      rw [Bool.and_eq_true, decide_eq_true_eq, decide_eq_true_eq, fa_le, ltv_48]
      rw [fa_lt, ltv_48] at c1
      omega)]
  · rw [if_neg c1, gA_in (vin h (by omega))]
    by_cases c2 : 57 < r.1 i
    · rw [if_pos c2, if_neg (by
        rw [Bool.and_eq_true, decide_eq_true_eq, decide_eq_true_eq, fa_le (r.1 i), ltv_57]
        rw [fa_lt, ltv_57] at c2
        omega)]
    · rw [if_neg c2, if_pos (by
        rw [Bool.and_eq_true, decide_eq_true_eq, decide_eq_true_eq]
        exact ⟨Int32.not_lt.mp c1, Int32.not_lt.mp c2⟩)]
theorem adv_L8 {T : Nat → Int32} {fed tok bh : Int32} {tl : Int32 × (Nat → Int64) × (Nat → Int32) × Int32 × Int32 × Int32} {e : Nat} (he : e ≤ 900) : ∀ n fuel i, n < fuel → i + n = e → f_X7_advance_L8 fuel (T, fed, nI e, tok, nI i, bh, tl) = f_X7_advance_J46 (T, fed, nI e, tok, nI (scn isSp T n i), bh, tl) := by
  intro n
  induction n with
  | zero =>
    intro fuel i hf hi
    obtain ⟨fuel, rfl⟩ : ∃ k, fuel = k + 1 := ⟨fuel - 1, by omega⟩
    rw [f_X7_advance_L8]
    dsimp only
    rw [if_pos (nI_le (by omega) (by omega)), scn]
  | succ n ih =>
    intro fuel i hf hi
    obtain ⟨fuel, rfl⟩ : ∃ k, fuel = k + 1 := ⟨fuel - 1, by omega⟩
    rw [f_X7_advance_L8]
    dsimp only
    rw [if_neg (nI_ge (by omega) (by omega)), gA_in (vin (by omega) (by omega)), nI_clamp (by omega), scn]
    by_cases c : T i = 32
    · rw [if_pos c, if_pos (by rw [isSp, c]; rfl), nIs, ih fuel (i + 1) (by omega) (by omega)]
    · rw [if_neg c, if_neg (by rw [isSp]; simpa using c)]
theorem adv_L84 {T : Nat → Int32} {fed tok st : Int32} {tl : Int32 × (Nat → Int64) × (Nat → Int32) × Int32 × Int32 × Int32} {e : Nat} (he : e ≤ 900) : ∀ n fuel i, n < fuel → i + n = e → f_X7_advance_L84 fuel (T, fed, nI e, tok, st, nI i, tl) = f_X7_advance_J119 (T, fed, nI e, tok, st, nI (scn isLt T n i), tl) := by
  intro n
  induction n with
  | zero =>
    intro fuel i hf hi
    obtain ⟨fuel, rfl⟩ : ∃ k, fuel = k + 1 := ⟨fuel - 1, by omega⟩
    rw [f_X7_advance_L84]
    dsimp only
    rw [if_pos (nI_le (by omega) (by omega)), scn]
  | succ n ih =>
    intro fuel i hf hi
    obtain ⟨fuel, rfl⟩ : ∃ k, fuel = k + 1 := ⟨fuel - 1, by omega⟩
    rw [f_X7_advance_L84]
    dsimp only
    rw [if_neg (nI_ge (by omega) (by omega)), x_isLetter (by omega), Option.bind_some, scn]
    by_cases c : isLt (T i) = true
    · rw [if_neg (show ¬ (if isLt (T i) = true then (1 : Int32) else 0) = 0 from by rw [if_pos c]; decide), if_pos c, nIs, ih fuel (i + 1) (by omega) (by omega)]
    · rw [if_pos (show (if isLt (T i) = true then (1 : Int32) else 0) = 0 from by rw [if_neg c]), if_neg c]
theorem adv_L156 {T : Nat → Int32} {fed tok st : Int32} {tl : Int32 × (Nat → Int64) × (Nat → Int32) × Int32 × Int32 × Int32} {e : Nat} (he : e ≤ 900) : ∀ n fuel i, n < fuel → i + n = e → f_X7_advance_L156 fuel (T, fed, nI e, tok, st, nI i, tl) = f_X7_advance_J191 (T, fed, nI e, tok, st, nI (scn isDg T n i), tl) := by
  intro n
  induction n with
  | zero =>
    intro fuel i hf hi
    obtain ⟨fuel, rfl⟩ : ∃ k, fuel = k + 1 := ⟨fuel - 1, by omega⟩
    rw [f_X7_advance_L156]
    dsimp only
    rw [if_pos (nI_le (by omega) (by omega)), scn]
  | succ n ih =>
    intro fuel i hf hi
    obtain ⟨fuel, rfl⟩ : ∃ k, fuel = k + 1 := ⟨fuel - 1, by omega⟩
    rw [f_X7_advance_L156]
    dsimp only
    rw [if_neg (nI_ge (by omega) (by omega)), x_isDigit (by omega), Option.bind_some, scn]
    by_cases c : isDg (T i) = true
    · rw [if_neg (show ¬ (if isDg (T i) = true then (1 : Int32) else 0) = 0 from by rw [if_pos c]; decide), if_pos c, nIs, ih fuel (i + 1) (by omega) (by omega)]
    · rw [if_pos (show (if isDg (T i) = true then (1 : Int32) else 0) = 0 from by rw [if_neg c]), if_neg c]
/-- a token: its sort (as the class numbers them), where it starts, where the next may -/
def tks (T : Nat → Int32) (e i : Nat) : Nat := scn isSp T (e - i) i
def tkb (T : Nat → Int32) (e s : Nat) : Nat := if e ≤ s then s else if isLt (T s) = true then scn isLt T (e - s) s else if isDg (T s) = true then scn isDg T (e - s) s else s + 1
def tkk (T : Nat → Int32) (e s : Nat) : Int32 := if e ≤ s then 0 else if isLt (T s) = true then (if scn isLt T (e - s) s - s ≤ 8 then 1 else 4) else if isDg (T s) = true then (if scn isDg T (e - s) s - s ≤ 2 then 2 else 4) else if T s = 59 then 3 else 4
theorem FU_big {n : Nat} (h : n ≤ 1000) : n < FU := by
  unfold FU
  omega
theorem x_advance {T : Nat → Int32} {fed tok st : Int32} {tl : Int32 × (Nat → Int64) × (Nat → Int32) × Int32 × Int32 × Int32} {e i : Nat} (he : e ≤ 900) (hi : i ≤ e) : f_X7_advance (T, fed, nI e, tok, st, nI i, tl) = some (T, fed, nI e, tkk T e (tks T e i), nI (tks T e i), nI (tkb T e (tks T e i)), tl) := by
  rw [f_X7_advance]
  dsimp only
  rw [adv_L8 he (e - i) FU i (FU_big (by omega)) (by omega)]
  have hs := @scn_le isSp T (e - i) i
  show f_X7_advance_J46 (T, fed, nI e, tok, nI (tks T e i), nI i, tl) = _
  have hs2 : i ≤ tks T e i ∧ tks T e i ≤ e := ⟨hs.1, by have := hs.2; unfold tks; omega⟩
  generalize tks T e i = s at hs2 ⊢
  rw [f_X7_advance_J46]
  dsimp only
  by_cases c0 : e ≤ s
  · have : s = e := by omega
    subst this
    rw [if_neg (nI_nlt (Nat.le_refl _) (by omega)), tkk, tkb, if_pos (Nat.le_refl _), if_pos (Nat.le_refl _)]
  · rw [if_pos (nI_lt (by omega) (by omega)), x_isLetter (by omega), Option.bind_some, tkk, tkb, if_neg c0, if_neg c0]
    by_cases c1 : isLt (T s) = true
    · rw [if_neg (show ¬ (if isLt (T s) = true then (1 : Int32) else 0) = 0 from by rw [if_pos c1]; decide), if_pos c1, if_pos c1, adv_L84 he (e - s) FU s (FU_big (by omega)) (by omega)]
      have hb := @scn_le isLt T (e - s) s
      generalize scn isLt T (e - s) s = b at hb ⊢
      rw [f_X7_advance_J119]
      dsimp only
      rw [pk_sub hb.1]
      by_cases c2 : b - s ≤ 8
      · rw [if_neg (show ¬ (8 : Int32) < nI (b - s) from nI_nlt (a := 8) c2 (by omega)), if_pos c2, f_X7_advance_J139]
      · rw [if_pos (show (8 : Int32) < nI (b - s) from nI_lt (a := 8) (by omega) (by omega)), if_neg c2, f_X7_advance_J139]
    · rw [if_pos (show (if isLt (T s) = true then (1 : Int32) else 0) = 0 from by rw [if_neg c1]), if_neg c1, if_neg c1, x_isDigit (by omega), Option.bind_some]
      by_cases c2 : isDg (T s) = true
      · rw [if_neg (show ¬ (if isDg (T s) = true then (1 : Int32) else 0) = 0 from by rw [if_pos c2]; decide), if_pos c2, if_pos c2, adv_L156 he (e - s) FU s (FU_big (by omega)) (by omega)]
        have hb := @scn_le isDg T (e - s) s
        generalize scn isDg T (e - s) s = b at hb ⊢
        rw [f_X7_advance_J191]
        dsimp only
        rw [pk_sub hb.1]
        by_cases c3 : b - s ≤ 2
        · rw [if_neg (show ¬ (2 : Int32) < nI (b - s) from nI_nlt (a := 2) c3 (by omega)), if_pos c3, f_X7_advance_J210]
        · rw [if_pos (show (2 : Int32) < nI (b - s) from nI_lt (a := 2) (by omega) (by omega)), if_neg c3, f_X7_advance_J210]
      · rw [if_pos (show (if isDg (T s) = true then (1 : Int32) else 0) = 0 from by rw [if_neg c2]), if_neg c2, if_neg c2, gA_in (vin (by omega) (by omega)), nI_clamp (by omega)]
        by_cases c3 : T s = 59
        · rw [if_pos c3, if_pos c3, f_X7_advance_J236]
          dsimp only
          rw [nIs]
        · rw [if_neg c3, if_neg c3, f_X7_advance_J236]
          dsimp only
          rw [nIs]
