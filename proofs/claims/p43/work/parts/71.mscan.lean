/-! the reference's scanner -/
def byt (b : Int32) : Prop := -128 ≤ b.toInt ∧ b.toInt ≤ 127
theorem u8 {b : Int32} : (b &&& 255).toInt = b.toInt % 256 := by
  have := Kit.i32_mask b 255 (k := 8) (by decide) (by decide)
  simpa using this
theorem u8_lt {b : Int32} (h : byt b) : f_X12_isLetter (b &&& 255) = if isLt b = true then 1 else 0 := by
  rw [f_X12_isLetter, isLt]
  obtain ⟨h1, h2⟩ := h
  have e := @u8 b
  by_cases c : 97 ≤ b.toInt ∧ b.toInt ≤ 122
  · rw [if_neg (show ¬ b &&& 255 < 97 from by rw [fa_lt, e, ltv_97]; omega), if_neg (show ¬ 122 < b &&& 255 from by rw [fa_lt, e, ltv_122]; omega), if_pos (by
      rw [Bool.and_eq_true, decide_eq_true_eq, decide_eq_true_eq, fa_le, fa_le, ltv_97, ltv_122]; exact c)]
  · rw [if_neg (show ¬ (decide (97 ≤ b) && decide (b ≤ 122)) = true from by
      rw [Bool.and_eq_true, decide_eq_true_eq, decide_eq_true_eq, fa_le, fa_le, ltv_97, ltv_122]; exact c)]
    by_cases c1 : b &&& 255 < 97
    · rw [if_pos c1]
    · rw [if_neg c1, if_pos (by
        rw [fa_lt, e, ltv_97] at c1
        rw [fa_lt, e, ltv_122]
        omega)]
theorem u8_dg {b : Int32} (h : byt b) : f_X12_isDigit (b &&& 255) = if isDg b = true then 1 else 0 := by
  rw [f_X12_isDigit, isDg]
  obtain ⟨h1, h2⟩ := h
  have e := @u8 b
  by_cases c : 48 ≤ b.toInt ∧ b.toInt ≤ 57
  · rw [if_neg (show ¬ b &&& 255 < 48 from by rw [fa_lt, e, ltv_48]; omega), if_neg (show ¬ 57 < b &&& 255 from by rw [fa_lt, e, ltv_57]; omega), if_pos (by
      rw [Bool.and_eq_true, decide_eq_true_eq, decide_eq_true_eq, fa_le, fa_le, ltv_48, ltv_57]; exact c)]
  · rw [if_neg (show ¬ (decide (48 ≤ b) && decide (b ≤ 57)) = true from by
      rw [Bool.and_eq_true, decide_eq_true_eq, decide_eq_true_eq, fa_le, fa_le, ltv_48, ltv_57]; exact c)]
    by_cases c1 : b &&& 255 < 48
    · rw [if_pos c1]
    · rw [if_neg c1, if_pos (by
        rw [fa_lt, e, ltv_48] at c1
        rw [fa_lt, e, ltv_57]
        omega)]
theorem u8_eq {b : Int32} (h : byt b) {c : Int32} (h0 : 0 ≤ c.toInt) (h1 : c.toInt ≤ 127) : (b &&& 255 = c) ↔ b = c := by
  rw [fa_eq, fa_eq, u8]
  obtain ⟨h2, h3⟩ := h
  omega
theorem u8_id {b : Int32} (h0 : 0 ≤ b.toInt) (h1 : b.toInt ≤ 127) : b &&& 255 = b := by
  rw [fa_eq, u8]
  omega
theorem u8_nn {b : Int32} : ¬ b &&& 255 = -1 := by
  rw [fa_eq, u8, ltv_m1]
  omega
theorem lt_nn {b : Int32} (h : isLt b = true) : 97 ≤ b.toInt ∧ b.toInt ≤ 122 := by
  rw [isLt, Bool.and_eq_true, decide_eq_true_eq, decide_eq_true_eq, fa_le, fa_le, ltv_97, ltv_122] at h
  exact h
theorem dg_nn {b : Int32} (h : isDg b = true) : 48 ≤ b.toInt ∧ b.toInt ≤ 57 := by
  rw [isDg, Bool.and_eq_true, decide_eq_true_eq, decide_eq_true_eq, fa_le, fa_le, ltv_48, ltv_57] at h
  exact h
theorem m_byteAt {T : Nat → Int32} {a : Int32} {tl : Int32 × Int32 × Int32 × Int32 × Int32 × Int32 × Int64} {e i : Nat} (he : e ≤ 900) (hi : i < e) : f_X12_byteAt (nI i) (T, a, nI e, tl) = some (T i &&& 255) := by
  rw [f_X12_byteAt]
  dsimp only
  rw [if_neg (nI_ge (by omega) (by omega)), gA_in (vin (by omega) (by omega)), nI_clamp (by omega)]
theorem m_byteEnd {T : Nat → Int32} {a : Int32} {tl : Int32 × Int32 × Int32 × Int32 × Int32 × Int32 × Int64} {e i : Nat} (he : i < 2 ^ 31) (hi : e ≤ i) : f_X12_byteAt (nI i) (T, a, nI e, tl) = some (-1) := by
  rw [f_X12_byteAt]
  dsimp only
  rw [if_pos (nI_le (by omega) (by omega))]
/-- the reference's word, as it is put together -/
def wcc (T : Nat → Int32) : Nat → Nat → Nat → Int64 → Int64
  | 0, _, _, w => w
  | n + 1, i, c, w => wcc T n (i + 1) (c + 1) (if c < 8 then 32 * w + (T i - 97 + 1).toInt64 else w)
def ncc (T : Nat → Int32) : Nat → Nat → Nat → Int32 → Int32
  | 0, _, _, w => w
  | n + 1, i, c, w => ncc T n (i + 1) (c + 1) (if c < 2 then 10 * w + T i - 48 else w)
theorem m_L84 {T : Nat → Int32} {a pl num fa wr : Int32} {e : Nat} (hT : ∀ j, byt (T j)) (he : e ≤ 900) : ∀ n fuel i c w, n < fuel → i + n = e → c ≤ i → f_X12_goesOn_L84 fuel (nI c) (T, a, nI e, nI i, 0, pl, num, fa, wr, w) = some (T, a, nI e, nI (scn isLt T n i), (if c + (scn isLt T n i - i) ≤ 8 then 2 else 0), pl, num, fa, wr, wcc T (scn isLt T n i - i) i c w) := by
  intro n
  induction n with
  | zero =>
    intro fuel i c w hf hi hc
    obtain ⟨fuel, rfl⟩ : ∃ k, fuel = k + 1 := ⟨fuel - 1, by omega⟩
    rw [f_X12_goesOn_L84]
    dsimp only
    rw [m_byteEnd (by omega) (by omega), Option.bind_some, nm, show f_X12_isLetter (-1) = 0 from by decide, if_pos rfl, scn, Nat.sub_self, wcc]
    by_cases h : c ≤ 8
    · rw [if_neg (show ¬ (8 : Int32) < nI c from nI_nlt (a := 8) h (by omega)), if_pos (by omega)]
    · rw [if_pos (show (8 : Int32) < nI c from nI_lt (a := 8) (by omega) (by omega)), if_neg (by omega)]
  | succ n ih =>
    intro fuel i c w hf hi hc
    obtain ⟨fuel, rfl⟩ : ∃ k, fuel = k + 1 := ⟨fuel - 1, by omega⟩
    rw [f_X12_goesOn_L84]
    dsimp only
    rw [m_byteAt he (by omega), Option.bind_some, nm, u8_lt (hT i), scn]
    by_cases l : isLt (T i) = true
    · rw [if_neg (show ¬ (if isLt (T i) = true then (1 : Int32) else 0) = 0 from by rw [if_pos l]; decide), if_pos l]
      have hs := @scn_le isLt T n (i + 1)
      have e1 : scn isLt T n (i + 1) - i = (scn isLt T n (i + 1) - (i + 1)) + 1 := by omega
      by_cases h : 8 ≤ c
      · rw [if_pos (show (8 : Int32) ≤ nI c from nI_le (a := 8) h (by omega)), f_X12_goesOn_J131]
        dsimp only
        rw [nIs, nIs, ih fuel (i + 1) (c + 1) w (by omega) (by omega) (by omega), e1, wcc, if_neg (show ¬ c < 8 from by omega), show c + 1 + (scn isLt T n (i + 1) - (i + 1)) = c + (scn isLt T n (i + 1) - (i + 1) + 1) from by omega]
      · rw [if_neg (show ¬ (8 : Int32) ≤ nI c from nI_ge (b := 8) (by omega) (by omega)), Option.bind_some, nm, f_X12_goesOn_J131]
        dsimp only
        have hl := lt_nn l
        rw [nIs, nIs, u8_id (by omega) (by omega), ih fuel (i + 1) (c + 1) _ (by omega) (by omega) (by omega), e1, wcc, if_pos (show c < 8 from by omega), show c + 1 + (scn isLt T n (i + 1) - (i + 1)) = c + (scn isLt T n (i + 1) - (i + 1) + 1) from by omega]
    · rw [if_pos (show (if isLt (T i) = true then (1 : Int32) else 0) = 0 from by rw [if_neg l]), if_neg l, Nat.sub_self, wcc]
      by_cases h : c ≤ 8
      · rw [if_neg (show ¬ (8 : Int32) < nI c from nI_nlt (a := 8) h (by omega)), if_pos (by omega)]
      · rw [if_pos (show (8 : Int32) < nI c from nI_lt (a := 8) (by omega) (by omega)), if_neg (by omega)]
theorem m_L173 {T : Nat → Int32} {a pl fa wr : Int32} {w : Int64} {e : Nat} (hT : ∀ j, byt (T j)) (he : e ≤ 900) : ∀ n fuel i c num, n < fuel → i + n = e → c ≤ i → f_X12_goesOn_L173 fuel (nI c) (T, a, nI e, nI i, 0, pl, num, fa, wr, w) = some (T, a, nI e, nI (scn isDg T n i), (if c + (scn isDg T n i - i) ≤ 2 then 3 else 0), pl, ncc T (scn isDg T n i - i) i c num, fa, wr, w) := by
  intro n
  induction n with
  | zero =>
    intro fuel i c num hf hi hc
    obtain ⟨fuel, rfl⟩ : ∃ k, fuel = k + 1 := ⟨fuel - 1, by omega⟩
    rw [f_X12_goesOn_L173]
    dsimp only
    rw [m_byteEnd (by omega) (by omega), Option.bind_some, nm, show f_X12_isDigit (-1) = 0 from by decide, if_pos rfl, scn, Nat.sub_self, ncc]
    by_cases h : c ≤ 2
    · rw [if_neg (show ¬ (2 : Int32) < nI c from nI_nlt (a := 2) h (by omega)), if_pos (by omega)]
    · rw [if_pos (show (2 : Int32) < nI c from nI_lt (a := 2) (by omega) (by omega)), if_neg (by omega)]
  | succ n ih =>
    intro fuel i c num hf hi hc
    obtain ⟨fuel, rfl⟩ : ∃ k, fuel = k + 1 := ⟨fuel - 1, by omega⟩
    rw [f_X12_goesOn_L173]
    dsimp only
    rw [m_byteAt he (by omega), Option.bind_some, nm, u8_dg (hT i), scn]
    by_cases l : isDg (T i) = true
    · rw [if_neg (show ¬ (if isDg (T i) = true then (1 : Int32) else 0) = 0 from by rw [if_pos l]; decide), if_pos l]
      have hs := @scn_le isDg T n (i + 1)
      have e1 : scn isDg T n (i + 1) - i = (scn isDg T n (i + 1) - (i + 1)) + 1 := by omega
      by_cases h : 2 ≤ c
      · rw [if_pos (show (2 : Int32) ≤ nI c from nI_le (a := 2) h (by omega)), f_X12_goesOn_J215]
        dsimp only
        rw [nIs, nIs, ih fuel (i + 1) (c + 1) num (by omega) (by omega) (by omega), e1, ncc, if_neg (show ¬ c < 2 from by omega), show c + 1 + (scn isDg T n (i + 1) - (i + 1)) = c + (scn isDg T n (i + 1) - (i + 1) + 1) from by omega]
      · rw [if_neg (show ¬ (2 : Int32) ≤ nI c from nI_ge (b := 2) (by omega) (by omega)), Option.bind_some, nm, f_X12_goesOn_J215]
        dsimp only
        have hl := dg_nn l
        rw [nIs, nIs, u8_id (by omega) (by omega), ih fuel (i + 1) (c + 1) _ (by omega) (by omega) (by omega), e1, ncc, if_pos (show c < 2 from by omega), show c + 1 + (scn isDg T n (i + 1) - (i + 1)) = c + (scn isDg T n (i + 1) - (i + 1) + 1) from by omega]
    · rw [if_pos (show (if isDg (T i) = true then (1 : Int32) else 0) = 0 from by rw [if_neg l]), if_neg l, Nat.sub_self, ncc]
      by_cases h : c ≤ 2
      · rw [if_neg (show ¬ (2 : Int32) < nI c from nI_nlt (a := 2) h (by omega)), if_pos (by omega)]
      · rw [if_pos (show (2 : Int32) < nI c from nI_lt (a := 2) (by omega) (by omega)), if_neg (by omega)]
/-- the reference's state at the token that starts at s -/
def mso (k : Int32) : Int32 := if k = 0 then 1 else if k = 1 then 2 else if k = 2 then 3 else if k = 3 then 4 else 0
def mspot (T : Nat → Int32) (e s : Nat) : Nat := if e ≤ s then s else if isLt (T s) = true then scn isLt T (e - s) s else if isDg (T s) = true then scn isDg T (e - s) s else if T s = 59 then s + 1 else s
def mword (T : Nat → Int32) (e s : Nat) (w : Int64) : Int64 := if e ≤ s then w else if isLt (T s) = true then wcc T (scn isLt T (e - s) s - s) s 0 0 else w
def mnum (T : Nat → Int32) (e s : Nat) (w : Int32) : Int32 := if e ≤ s then w else if isLt (T s) = true then w else if isDg (T s) = true then ncc T (scn isDg T (e - s) s - s) s 0 0 else w
theorem m_L9 {T : Nat → Int32} {a so pl num fa wr : Int32} {w : Int64} {e : Nat} (hT : ∀ j, byt (T j)) (he : e ≤ 900) : ∀ n fuel i, n < fuel → i + n = e → f_X12_goesOn_L9 fuel (T, a, nI e, nI i, so, pl, num, fa, wr, w) = some (T, a, nI e, nI (mspot T e (scn isSp T n i)), mso (tkk T e (scn isSp T n i)), nI (scn isSp T n i), mnum T e (scn isSp T n i) num, fa, wr, mword T e (scn isSp T n i) w) := by
  intro n
  induction n with
  | zero =>
    intro fuel i hf hi
    obtain ⟨fuel, rfl⟩ : ∃ k, fuel = k + 1 := ⟨fuel - 1, by omega⟩
    have : i = e := by omega
    subst this
    rw [f_X12_goesOn_L9]
    dsimp only
    rw [m_byteEnd (by omega) (by omega), Option.bind_some, if_neg (by decide), m_byteEnd (by omega) (by omega), Option.bind_some, if_pos rfl, scn, mspot, mnum, mword, tkk, if_pos (Nat.le_refl _), if_pos (Nat.le_refl _), if_pos (Nat.le_refl _), if_pos (Nat.le_refl _), mso, if_pos rfl]
  | succ n ih =>
    intro fuel i hf hi
    obtain ⟨fuel, rfl⟩ : ∃ k, fuel = k + 1 := ⟨fuel - 1, by omega⟩
    rw [f_X12_goesOn_L9]
    dsimp only
    rw [m_byteAt he (by omega), Option.bind_some, scn]
    by_cases c : T i = 32
    · rw [if_pos ((u8_eq (hT i) (by decide) (by decide)).mpr c), if_pos (show isSp (T i) = true from by rw [isSp, c]; rfl), nIs, ih fuel (i + 1) (by omega) (by omega)]
    · rw [if_neg (fun z => c ((u8_eq (hT i) (by decide) (by decide)).mp z)), if_neg (show ¬ isSp (T i) = true from by rw [isSp]; simpa using c), m_byteAt he (by omega), Option.bind_some, if_neg u8_nn, nm, u8_lt (hT i), mspot, mnum, mword, tkk, if_neg (show ¬ e ≤ i from by omega), if_neg (show ¬ e ≤ i from by omega), if_neg (show ¬ e ≤ i from by omega), if_neg (show ¬ e ≤ i from by omega)]
      by_cases c1 : isLt (T i) = true
      · rw [if_neg (show ¬ (if isLt (T i) = true then (1 : Int32) else 0) = 0 from by rw [if_pos c1]; decide), if_pos c1, if_pos c1, if_pos c1, if_pos c1]
        have := m_L84 (a := a) (pl := nI i) (num := num) (fa := fa) (wr := wr) hT he (n + 1) FU i 0 0 (FU_big (by omega)) (by omega) (by omega)
        rw [show (nI 0 : Int32) = 0 from nI_0] at this
        rw [this, show e - i = n + 1 from by omega, Nat.zero_add]
        by_cases c2 : scn isLt T (n + 1) i - i ≤ 8
        · rw [if_pos c2, if_pos c2]; rfl
        · rw [if_neg c2, if_neg c2]; rfl
      · rw [if_pos (show (if isLt (T i) = true then (1 : Int32) else 0) = 0 from by rw [if_neg c1]), if_neg c1, if_neg c1, if_neg c1, if_neg c1, nm, u8_dg (hT i)]
        by_cases c2 : isDg (T i) = true
        · rw [if_neg (show ¬ (if isDg (T i) = true then (1 : Int32) else 0) = 0 from by rw [if_pos c2]; decide), if_pos c2, if_pos c2, if_pos c2]
          have := m_L173 (a := a) (pl := nI i) (fa := fa) (wr := wr) (w := w) hT he (n + 1) FU i 0 0 (FU_big (by omega)) (by omega) (by omega)
          rw [show (nI 0 : Int32) = 0 from nI_0] at this
          rw [this, show e - i = n + 1 from by omega, Nat.zero_add]
          by_cases c3 : scn isDg T (n + 1) i - i ≤ 2
          · rw [if_pos c3, if_pos c3]; rfl
          · rw [if_neg c3, if_neg c3]; rfl
        · rw [if_pos (show (if isDg (T i) = true then (1 : Int32) else 0) = 0 from by rw [if_neg c2]), if_neg c2, if_neg c2, if_neg c2]
          by_cases c3 : T i = 59
          · rw [if_pos ((u8_eq (hT i) (by decide) (by decide)).mpr c3), if_pos c3, if_pos c3, nIs]; rfl
          · rw [if_neg (fun z => c3 ((u8_eq (hT i) (by decide) (by decide)).mp z)), if_neg c3, if_neg c3]; rfl
theorem m_goesOn {T : Nat → Int32} {a so pl num fa wr : Int32} {w : Int64} {e i : Nat} (hT : ∀ j, byt (T j)) (he : e ≤ 900) (hi : i ≤ e) (hso : ¬ so = 5) : f_X12_goesOn (T, a, nI e, nI i, so, pl, num, fa, wr, w) = some (T, a, nI e, nI (mspot T e (tks T e i)), mso (tkk T e (tks T e i)), nI (tks T e i), mnum T e (tks T e i) num, fa, wr, mword T e (tks T e i) w) := by
  rw [f_X12_goesOn]
  dsimp only
  rw [if_neg hso, m_L9 hT he (e - i) FU i (FU_big (by omega)) (by omega)]
  rfl
theorem m_dead {m : TX12_s} (h : m.2.2.2.2.1 = 5) : f_X12_goesOn m = some m := by
  rw [f_X12_goesOn, if_pos h]
