/-! words and numbers -/
def wcode (g : Nat → Int32) : Nat → Nat → Int64 → Int64
  | 0, _, c => c
  | n + 1, i, c => wcode g n (i + 1) (32 * c + (g i - 97 + 1).toInt64)
def ncode (g : Nat → Int32) : Nat → Nat → Int32 → Int32
  | 0, _, c => c
  | n + 1, i, c => ncode g n (i + 1) (10 * c + g i - 48)
theorem wcc_eq {T : Nat → Int32} : ∀ n i c w, c + n ≤ 8 → wcc T n i c w = wcode T n i w := by
  intro n
  induction n with
  | zero => intro i c w _; rw [wcc, wcode]
  | succ n ih => intro i c w h; rw [wcc, wcode, if_pos (by omega), ih (i + 1) (c + 1) _ (by omega)]
theorem ncc_eq {T : Nat → Int32} : ∀ n i c w, c + n ≤ 2 → ncc T n i c w = ncode T n i w := by
  intro n
  induction n with
  | zero => intro i c w _; rw [ncc, ncode]
  | succ n ih => intro i c w h; rw [ncc, ncode, if_pos (by omega), ih (i + 1) (c + 1) _ (by omega)]
theorem wcode_snoc {g : Nat → Int32} : ∀ n i c, wcode g (n + 1) i c = 32 * wcode g n i c + (g (i + n) - 97 + 1).toInt64 := by
  intro n
  induction n with
  | zero => intro i c; rfl
  | succ n ih =>
    intro i c
    rw [wcode, ih (i + 1), wcode, show i + 1 + n = i + (n + 1) from by omega]
def dig (x : Int32) : Nat := (x.toInt - 96).toNat
theorem dig_of {x : Int32} (h : isLt x = true) : 1 ≤ dig x ∧ dig x ≤ 26 ∧ (x - 97 + 1).toInt64 = lN (dig x) ∧ x = nI (dig x + 96) := by
  have hl := lt_nn h
  obtain ⟨a, ha, rfl⟩ := inn_of (x := x) (by omega)
  rw [nI_toInt ha] at hl
  have hd : dig (nI a) = a - 96 := by
    unfold dig
    rw [nI_toInt ha]
    omega
  refine ⟨by omega, by omega, ?_, by rw [hd]; congr 1; omega⟩
  rw [show (97 : Int32) = nI 97 from rfl, pk_sub (by omega), nIs, nI_l (by omega), hd]
  congr 1
  omega
def vcode (g : Nat → Int32) (i : Nat) : Nat → Nat
  | 0 => 0
  | n + 1 => 32 * vcode g i n + dig (g (i + n))
theorem wcode_v {g : Nat → Int32} {i : Nat} : ∀ n, (∀ j, j < n → isLt (g (i + j)) = true) → wcode g n i 0 = lN (vcode g i n) := by
  intro n
  induction n with
  | zero => intro _; rfl
  | succ n ih =>
    intro h
    rw [wcode_snoc, ih (fun j hj => h j (by omega)), (dig_of (h n (by omega))).2.2.1, vcode, show (32 : Int64) = lN 32 from rfl, lN_mul, lN_add]
theorem vcode_lt {g : Nat → Int32} {i : Nat} : ∀ n, (∀ j, j < n → isLt (g (i + j)) = true) → vcode g i n < 32 ^ n ∧ (0 < n → 0 < vcode g i n) := by
  intro n
  induction n with
  | zero => intro _; exact ⟨by rw [vcode]; decide, fun h => absurd h (by omega)⟩
  | succ n ih =>
    intro h
    have h1 := ih (fun j hj => h j (by omega))
    have h2 := dig_of (h n (by omega))
    rw [vcode, Nat.pow_succ]
    omega
theorem vcode_inj {g g' : Nat → Int32} {i i' : Nat} : ∀ n n', (∀ j, j < n → isLt (g (i + j)) = true) → (∀ j, j < n' → isLt (g' (i' + j)) = true) → vcode g i n = vcode g' i' n' → n = n' ∧ ∀ j, j < n → g (i + j) = g' (i' + j) := by
  intro n
  induction n with
  | zero =>
    intro n' _ h' e
    have h1 := (vcode_lt n' h').2
    rw [vcode] at e
    exact ⟨by omega, fun j hj => absurd hj (by omega)⟩
  | succ n ih =>
    intro n' h h' e
    cases n' with
    | zero =>
      have h1 := (vcode_lt (n + 1) h).2
      rw [show vcode g' i' 0 = 0 from rfl] at e
      omega
    | succ n' =>
      have d1 := dig_of (h n (by omega))
      have d2 := dig_of (h' n' (by omega))
      rw [vcode, vcode] at e
      obtain ⟨e1, e2⟩ := ih n' (fun j hj => h j (by omega)) (fun j hj => h' j (by omega)) (by omega)
      subst e1
      refine ⟨rfl, fun j hj => ?_⟩
      by_cases c : j = n
      · subst c
        rw [d1.2.2.2, d2.2.2.2]
        congr 2
        omega
      · exact e2 j (by omega)
theorem lN_inj {a b : Nat} (ha : a < 2 ^ 63) (hb : b < 2 ^ 63) (h : lN a = lN b) : a = b := (pk_lEQ ha hb).mp h
theorem wcode_inj {g g' : Nat → Int32} {i i' n n' : Nat} (hn : n ≤ 8) (hn' : n' ≤ 8) (h : ∀ j, j < n → isLt (g (i + j)) = true) (h' : ∀ j, j < n' → isLt (g' (i' + j)) = true) : (wcode g n i 0 = wcode g' n' i' 0) ↔ (n = n' ∧ ∀ j, j < n → g (i + j) = g' (i' + j)) := by
  constructor
  · intro e
    rw [wcode_v n h, wcode_v n' h'] at e
    have b1 := (vcode_lt n h).1
    have b2 := (vcode_lt n' h').1
    have p1 : 32 ^ n ≤ 32 ^ 8 := Nat.pow_le_pow_right (by decide) hn
    have p2 : 32 ^ n' ≤ 32 ^ 8 := Nat.pow_le_pow_right (by decide) hn'
    exact vcode_inj n n' h h' (lN_inj (by omega) (by omega) e)
  · rintro ⟨rfl, e⟩
    rw [wcode_v n h, wcode_v n h']
    congr 1
    clear hn hn'
    induction n with
    | zero => rfl
    | succ n ih => rw [vcode, vcode, ih (fun j hj => h j (by omega)) (fun j hj => e j (by omega)) (fun j hj => h' j (by omega)), e n (by omega)]
theorem lgc0 {x y : Int64} : (lg_cmp x y = 0) ↔ x = y := by
  unfold lg_cmp
  constructor
  · intro h
    by_cases c2 : x = y
    · exact c2
    · exfalso
      by_cases c1 : x > y
      · rw [if_pos c1] at h
        exact absurd h (by decide)
      · rw [if_neg c1, if_neg c2] at h
        exact absurd h (by decide)
  · rintro rfl
    rw [if_neg (show ¬ x > x from by rw [gt_iff_lt, Int64.lt_iff_toInt_lt]; omega), if_pos rfl]
/-- the constants: small letters, eight at most -/
def wok (w : List Int32) : Bool := decide (1 ≤ w.length) && decide (w.length ≤ 8) && w.all isLt
theorem wok_of {w : List Int32} (h : wok w = true) : 1 ≤ w.length ∧ w.length ≤ 8 ∧ ∀ j, j < w.length → isLt (w.getD j 0) = true := by
  unfold wok at h
  rw [Bool.and_eq_true, Bool.and_eq_true, decide_eq_true_eq, decide_eq_true_eq, List.all_eq_true] at h
  refine ⟨h.1.1, h.1.2, fun j hj => h.2 _ ?_⟩
  rw [List.getD_eq_getElem?_getD, List.getElem?_eq_getElem hj]
  exact List.getElem_mem hj
theorem sch_w {w : List Int32} (h : wok w = true) {k : Nat} (hk : k < w.length) : sch w (nI k) = w.getD k 0 := by
  obtain ⟨h1, h2, h3⟩ := wok_of h
  have := lt_nn (h3 k hk)
  unfold sch
  rw [nI_clamp (by omega), sc_c2, u8_id (by omega) (by omega)]
theorem m_packed_L {w : List Int32} (h : wok w = true) : ∀ n fuel k v, n < fuel → k + n = w.length → f_X12_packed_L4 w fuel (nI k) v = some (wcode (fun j => w.getD j 0) n k v) := by
  obtain ⟨h1, h2, h3⟩ := wok_of h
  intro n
  induction n with
  | zero =>
    intro fuel k v hf hk
    obtain ⟨fuel, rfl⟩ : ∃ k, fuel = k + 1 := ⟨fuel - 1, by omega⟩
    rw [f_X12_packed_L4, if_pos (nI_le (by omega) (by omega)), wcode]
  | succ n ih =>
    intro fuel k v hf hk
    obtain ⟨fuel, rfl⟩ : ∃ k, fuel = k + 1 := ⟨fuel - 1, by omega⟩
    rw [f_X12_packed_L4, if_neg (nI_ge (by omega) (by omega)), gA_in (vp_in_nI (by omega) (by omega)), nm, nIs, ih fuel (k + 1) _ (by omega) (by omega), sch_w h (by omega), wcode]
theorem m_packed {w : List Int32} (h : wok w = true) : f_X12_packed w = some (wcode (fun j => w.getD j 0) w.length 0 0) := by
  obtain ⟨h1, h2, h3⟩ := wok_of h
  rw [f_X12_packed]
  have := m_packed_L h w.length FU 0 0 (FU_big (by omega)) (by omega)
  rw [nI_0] at this
  exact this
/-- the text at s is the word w, k letters of it being looked at -/
def weq (T : Nat → Int32) (w : List Int32) (s : Nat) : Nat → Nat → Bool
  | 0, _ => true
  | n + 1, k => if T (s + k) = w.getD k 0 then weq T w s n (k + 1) else false
theorem weq_iff {T : Nat → Int32} {w : List Int32} {s : Nat} : ∀ n k, weq T w s n k = true ↔ ∀ j, j < n → T (s + (k + j)) = w.getD (k + j) 0 := by
  intro n
  induction n with
  | zero => intro k; exact ⟨fun _ j hj => absurd hj (by omega), fun _ => rfl⟩
  | succ n ih =>
    intro k
    rw [weq]
    by_cases c : T (s + k) = w.getD k 0
    · rw [if_pos c, ih (k + 1)]
      constructor
      · intro h j hj
        by_cases e : j = 0
        · subst e; exact c
        · have := h (j - 1) (by omega)
          rw [show k + 1 + (j - 1) = k + j from by omega] at this
          exact this
      · intro h j hj
        have := h (j + 1) (by omega)
        rw [show k + (j + 1) = k + 1 + j from by omega] at this
        exact this
    · rw [if_neg c]
      exact ⟨(fun h => by cases h), fun h => absurd (h 0 (by omega)) c⟩
theorem x_isWord_L {w : List Int32} (hw : wok w = true) {r : TX7_r} {s : Nat} (hs : r.2.2.2.2.1 = nI s) (hb : s + w.length ≤ 900) : ∀ n fuel k, n < fuel → k + n = w.length → f_X7_isWord_L28 w r fuel (nI k) = some (if weq r.1 w s n k = true then 1 else 0) := by
  obtain ⟨h1, h2, h3⟩ := wok_of hw
  intro n
  induction n with
  | zero =>
    intro fuel k hf hk
    obtain ⟨fuel, rfl⟩ : ∃ k, fuel = k + 1 := ⟨fuel - 1, by omega⟩
    rw [f_X7_isWord_L28, if_pos (nI_le (by omega) (by omega)), weq, if_pos rfl]
  | succ n ih =>
    intro fuel k hf hk
    obtain ⟨fuel, rfl⟩ : ∃ k, fuel = k + 1 := ⟨fuel - 1, by omega⟩
    rw [f_X7_isWord_L28, if_neg (nI_ge (by omega) (by omega)), hs, nI_add, gA_in (vin (by omega) (by omega)), gA_in (vp_in_nI (by omega) (by omega)), nI_clamp (by omega), sch_w hw (by omega), weq]
    by_cases c : r.1 (s + k) = w.getD k 0
    · rw [if_pos c, if_pos c, nIs, ih fuel (k + 1) (by omega) (by omega)]
    · rw [if_neg c, if_neg c, if_neg (by decide)]
/-- the token at s is the word w -/
def isw (T : Nat → Int32) (e s : Nat) (w : List Int32) : Bool := decide (tkk T e s = 1) && decide (tkb T e s - s = w.length) && weq T w s w.length 0
theorem tk_word {T : Nat → Int32} {e s : Nat} (h : tkk T e s = 1) : s < e ∧ isLt (T s) = true ∧ tkb T e s = scn isLt T (e - s) s ∧ tkb T e s - s ≤ 8 ∧ s < tkb T e s ∧ tkb T e s ≤ e ∧ ∀ j, j < tkb T e s - s → isLt (T (s + j)) = true := by
  unfold tkk at h
  by_cases c0 : e ≤ s
  · rw [if_pos c0] at h
    exact absurd h (by decide)
  · rw [if_neg c0] at h
    by_cases c1 : isLt (T s) = true
    · rw [if_pos c1] at h
      have hb : tkb T e s = scn isLt T (e - s) s := by rw [tkb, if_neg c0, if_pos c1]
      have hl := @scn_le isLt T (e - s) s
      by_cases c2 : scn isLt T (e - s) s - s ≤ 8
      · refine ⟨by omega, c1, hb, by omega, ?_, by omega, fun j hj => scn_in (e - s) s (s + j) (by omega) (by omega)⟩
        rw [hb, show e - s = (e - s - 1) + 1 from by omega, scn, if_pos c1]
        have := @scn_le isLt T (e - s - 1) (s + 1)
        omega
      · rw [if_neg c2] at h
        exact absurd h (by decide)
    · rw [if_neg c1] at h
      by_cases c2 : isDg (T s) = true
      · rw [if_pos c2] at h
        by_cases c3 : scn isDg T (e - s) s - s ≤ 2
        · rw [if_pos c3] at h; exact absurd h (by decide)
        · rw [if_neg c3] at h; exact absurd h (by decide)
      · rw [if_neg c2] at h
        by_cases c3 : T s = 59
        · rw [if_pos c3] at h; exact absurd h (by decide)
        · rw [if_neg c3] at h; exact absurd h (by decide)
theorem tk_whole {T : Nat → Int32} {e s : Nat} (h : tkk T e s = 2) : s < e ∧ isDg (T s) = true ∧ isLt (T s) = false ∧ tkb T e s = scn isDg T (e - s) s ∧ tkb T e s - s ≤ 2 ∧ s < tkb T e s ∧ tkb T e s ≤ e ∧ ∀ j, j < tkb T e s - s → isDg (T (s + j)) = true := by
  unfold tkk at h
  by_cases c0 : e ≤ s
  · rw [if_pos c0] at h
    exact absurd h (by decide)
  · rw [if_neg c0] at h
    by_cases c1 : isLt (T s) = true
    · rw [if_pos c1] at h
      by_cases c2 : scn isLt T (e - s) s - s ≤ 8
      · rw [if_pos c2] at h; exact absurd h (by decide)
      · rw [if_neg c2] at h; exact absurd h (by decide)
    · rw [if_neg c1] at h
      by_cases c2 : isDg (T s) = true
      · rw [if_pos c2] at h
        have hb : tkb T e s = scn isDg T (e - s) s := by rw [tkb, if_neg c0, if_neg c1, if_pos c2]
        have hl := @scn_le isDg T (e - s) s
        by_cases c3 : scn isDg T (e - s) s - s ≤ 2
        · refine ⟨by omega, c2, by simpa using c1, hb, by omega, ?_, by omega, fun j hj => scn_in (e - s) s (s + j) (by omega) (by omega)⟩
          rw [hb, show e - s = (e - s - 1) + 1 from by omega, scn, if_pos c2]
          have := @scn_le isDg T (e - s - 1) (s + 1)
          omega
        · rw [if_neg c3] at h; exact absurd h (by decide)
      · rw [if_neg c2] at h
        by_cases c3 : T s = 59
        · rw [if_pos c3] at h; exact absurd h (by decide)
        · rw [if_neg c3] at h; exact absurd h (by decide)
theorem tk_semi {T : Nat → Int32} {e s : Nat} (h : tkk T e s = 3) : s < e ∧ tkb T e s = s + 1 ∧ mspot T e s = s + 1 := by
  unfold tkk at h
  by_cases c0 : e ≤ s
  · rw [if_pos c0] at h
    exact absurd h (by decide)
  · rw [if_neg c0] at h
    by_cases c1 : isLt (T s) = true
    · rw [if_pos c1] at h
      by_cases c2 : scn isLt T (e - s) s - s ≤ 8
      · rw [if_pos c2] at h; exact absurd h (by decide)
      · rw [if_neg c2] at h; exact absurd h (by decide)
    · rw [if_neg c1] at h
      by_cases c2 : isDg (T s) = true
      · rw [if_pos c2] at h
        by_cases c3 : scn isDg T (e - s) s - s ≤ 2
        · rw [if_pos c3] at h; exact absurd h (by decide)
        · rw [if_neg c3] at h; exact absurd h (by decide)
      · rw [if_neg c2] at h
        by_cases c3 : T s = 59
        · exact ⟨by omega, by rw [tkb, if_neg c0, if_neg c1, if_neg c2], by rw [mspot, if_neg c0, if_neg c1, if_neg c2, if_pos c3]⟩
        · rw [if_neg c3] at h; exact absurd h (by decide)
theorem tk_end {T : Nat → Int32} {e s : Nat} (h : tkk T e s = 0) : e ≤ s := by
  unfold tkk at h
  by_cases c0 : e ≤ s
  · exact c0
  · rw [if_neg c0] at h
    by_cases c1 : isLt (T s) = true
    · rw [if_pos c1] at h
      by_cases c2 : scn isLt T (e - s) s - s ≤ 8
      · rw [if_pos c2] at h; exact absurd h (by decide)
      · rw [if_neg c2] at h; exact absurd h (by decide)
    · rw [if_neg c1] at h
      by_cases c2 : isDg (T s) = true
      · rw [if_pos c2] at h
        by_cases c3 : scn isDg T (e - s) s - s ≤ 2
        · rw [if_pos c3] at h; exact absurd h (by decide)
        · rw [if_neg c3] at h; exact absurd h (by decide)
      · rw [if_neg c2] at h
        by_cases c3 : T s = 59
        · rw [if_pos c3] at h; exact absurd h (by decide)
        · rw [if_neg c3] at h; exact absurd h (by decide)
theorem tkb_le {T : Nat → Int32} {e s : Nat} (h : s ≤ e) : s ≤ tkb T e s ∧ tkb T e s ≤ e := by
  unfold tkb
  by_cases c0 : e ≤ s
  · rw [if_pos c0]; omega
  · rw [if_neg c0]
    by_cases c1 : isLt (T s) = true
    · rw [if_pos c1]
      have := @scn_le isLt T (e - s) s
      omega
    · rw [if_neg c1]
      by_cases c2 : isDg (T s) = true
      · rw [if_pos c2]
        have := @scn_le isDg T (e - s) s
        omega
      · rw [if_neg c2]; omega
theorem tks_le {T : Nat → Int32} {e i : Nat} (h : i ≤ e) : i ≤ tks T e i ∧ tks T e i ≤ e := by
  have := @scn_le isSp T (e - i) i
  unfold tks
  omega
theorem tkk_5 {T : Nat → Int32} {e s : Nat} : tkk T e s = 0 ∨ tkk T e s = 1 ∨ tkk T e s = 2 ∨ tkk T e s = 3 ∨ tkk T e s = 4 := by
  unfold tkk
  by_cases c0 : e ≤ s
  · rw [if_pos c0]; exact Or.inl rfl
  · rw [if_neg c0]
    by_cases c1 : isLt (T s) = true
    · rw [if_pos c1]
      by_cases c2 : scn isLt T (e - s) s - s ≤ 8
      · rw [if_pos c2]; exact Or.inr (Or.inl rfl)
      · rw [if_neg c2]; exact Or.inr (Or.inr (Or.inr (Or.inr rfl)))
    · rw [if_neg c1]
      by_cases c2 : isDg (T s) = true
      · rw [if_pos c2]
        by_cases c3 : scn isDg T (e - s) s - s ≤ 2
        · rw [if_pos c3]; exact Or.inr (Or.inr (Or.inl rfl))
        · rw [if_neg c3]; exact Or.inr (Or.inr (Or.inr (Or.inr rfl)))
      · rw [if_neg c2]
        by_cases c3 : T s = 59
        · rw [if_pos c3]; exact Or.inr (Or.inr (Or.inr (Or.inl rfl)))
        · rw [if_neg c3]; exact Or.inr (Or.inr (Or.inr (Or.inr rfl)))
/-- where the next token starts -/
def nxt (T : Nat → Int32) (e s : Nat) : Nat := tks T e (tkb T e s)
theorem nxt_le {T : Nat → Int32} {e s : Nat} (h : s ≤ e) : s ≤ nxt T e s ∧ nxt T e s ≤ e := by
  have h1 := @tkb_le T e s h
  have h2 := @tks_le T e (tkb T e s) h1.2
  unfold nxt
  omega
