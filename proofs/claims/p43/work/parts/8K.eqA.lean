/-! lines that are out, by their spots -/
section OUT
variable {p : TX6_p} {q : TX11_q} {sp de ba as an bi cf ct t : Nat} {n : TX4_n} {v : Nat → Int32}
theorem nI_ij {a b : Nat} (ha : a < 2 ^ 31) (hb : b < 2 ^ 31) (h : nI a = nI b) : a = b := by
  have := congrArg Int32.toInt h
  rw [nI_toInt ha, nI_toInt hb] at this
  omega
/-- the spots of lines that are out -/
def LSp (sp de ba : Nat) (σ : Nat → Option Nat) (l v : Nat → Int32) : Prop := ∀ k, k < 5 → (σ k = none ∧ l k = -1 ∧ v (18 + k) = -2) ∨ (∃ s f b : Nat, σ k = some s ∧ s < sp ∧ 1 ≤ f ∧ f ≤ de ∧ b < ba ∧ l k = nI (100 * s + 10 * f + b) ∧ v (18 + k) = nI ((s * de + f - 1) * ba + b))
theorem ls_of (h : ∀ k, k < 5 → NL sp de ba (n.2.2.2.2.2.2 k) (v (18 + k))) : ∃ σ, LSp sp de ba σ n.2.2.2.2.2.2 v := by
  have : ∀ k, ∃ o : Option Nat, k < 5 → (o = none ∧ n.2.2.2.2.2.2 k = -1 ∧ v (18 + k) = -2) ∨ (∃ s f b : Nat, o = some s ∧ s < sp ∧ 1 ≤ f ∧ f ≤ de ∧ b < ba ∧ n.2.2.2.2.2.2 k = nI (100 * s + 10 * f + b) ∧ v (18 + k) = nI ((s * de + f - 1) * ba + b)) := by
    intro k
    by_cases hk : k < 5
    · rcases h k hk with ⟨e1, e2⟩ | ⟨s, f, b, a1, a2, a3, a4, e1, e2⟩
      · exact ⟨none, fun _ => Or.inl ⟨rfl, e1, e2⟩⟩
      · exact ⟨some s, fun _ => Or.inr ⟨s, f, b, rfl, a1, a2, a3, a4, e1, e2⟩⟩
    · exact ⟨none, fun z => absurd z hk⟩
  exact ⟨fun k => (this k).choose, fun k hk => (this k).choose_spec hk⟩
def tgo (q : TX11_q) (σ : Nat → Option Nat) (k u j : Nat) : Bool := match σ j with | none => false | some w => !decide (j = k) && tg q k u j w
def tga (q : TX11_q) (σ : Nat → Option Nat) (k u : Nat) : Nat → Nat → Bool
  | 0, _ => false
  | m + 1, j => tgo q σ k u j || tga q σ k u m (j + 1)
theorem tga_iff {σ : Nat → Option Nat} {k u : Nat} : ∀ m j, tga q σ k u m j = true ↔ ∃ i, j ≤ i ∧ i < j + m ∧ tgo q σ k u i = true := by
  intro m
  induction m with
  | zero =>
    intro j
    constructor
    · intro h
      exact absurd h (by simp [tga])
    · rintro ⟨i, h1, h2, -⟩
      omega
  | succ m ih =>
    intro j
    rw [tga, Bool.or_eq_true, ih (j + 1)]
    constructor
    · rintro (h | ⟨i, h1, h2, h3⟩)
      · exact ⟨j, Nat.le_refl j, by omega, h⟩
      · exact ⟨i, by omega, by omega, h3⟩
    · rintro ⟨i, h1, h2, h3⟩
      by_cases c : i = j
      · subst c
        exact Or.inl h3
      · exact Or.inr ⟨i, by omega, by omega, h3⟩
theorem bI_0 : bI false = 0 := rfl
theorem bI_1 : bI true = 1 := rfl
/-- a line of the class -/
theorem tgl_x (hq : PQ p q sp de ba as an bi cf ct) {σ : Nat → Option Nat} (hl : LSp sp de ba σ n.2.2.2.2.2.2 v) {k u : Nat} (hk : k < as) (hu : u < sp) : ∀ (m j N : Nat), j + m = as → m < N → f_X4_isTangled_L3 (nI k) (nI u) n p N (nI j) = some (bI (tga q σ k u m j)) := by
  obtain ⟨⟨-, -, -, s4⟩, ⟨-, -, -, d4⟩, -, ⟨-, -, -, b4⟩, ⟨s1, -, s3⟩, -⟩ := id hq
  intro m
  induction m with
  | zero =>
    intro j N hj hN
    cases N with
    | zero => omega
    | succ N =>
      rw [f_X4_isTangled_L3, show p.2.2.2.2.2.1 = nI as from s1, if_pos ((nI_leI (by omega) (by omega)).mpr (by omega))]
      rfl
  | succ m ih =>
    intro j N hj hN
    cases N with
    | zero => omega
    | succ N =>
      have e := ih (j + 1) N (by omega) (by omega)
      rw [f_X4_isTangled_L3, show p.2.2.2.2.2.1 = nI as from s1, if_neg (show ¬ nI as ≤ nI j by rw [nI_leI (by omega) (by omega)]; omega)]
      dsimp only [nm]
      rw [f_X4_isTangled_J52, nI_1, e, tga]
      by_cases c : j = k
      · subst c
        rw [if_pos rfl]
        unfold tgo
        rw [decide_eq_true (rfl : j = j)]
        cases σ j <;> rfl
      · rw [if_neg (show ¬ nI j = nI k from fun z => c (nI_ij (by omega) (by omega) z)), gA_in (vin (show j < 5 by omega) (by omega)), gA_in (vin (show j < 5 by omega) (by omega)), nI_clamp (show j < 2 ^ 31 by omega)]
        unfold tgo
        rw [decide_eq_false c]
        rcases hl j (by omega) with ⟨o1, o2, -⟩ | ⟨s, f, b, o1, a1, a2, a3, a4, o2, -⟩
        · rw [o1, if_pos o2]
          rfl
        · rw [o1, if_neg (show ¬ n.2.2.2.2.2.2 j = -1 by rw [o2]; exact nI_m1 (by omega)), o2, sp_of (by omega) (by omega) (by omega), tgx hq hk (by omega) hu a1, Option.bind_some]
          dsimp only
          cases tg q k u j s
          · rw [bI_0, if_pos rfl]
            rfl
          · rw [bI_1, if_neg one_ne]
            rfl
/-- a line of the reference -/
theorem tgl_m (hq : PQ p q sp de ba as an bi cf ct) {σ : Nat → Option Nat} {l : Nat → Int32} (hl : LSp sp de ba σ l v) {k u : Nat} (hk : k < as) (hu : σ k = some u) : ∀ (m j N : Nat), j + m = as → m < N → f_X12_isTangled_L2 (nI k) v q N (nI j) = some (bI (tga q σ k u m j)) := by
  obtain ⟨⟨-, -, -, s4⟩, ⟨-, -, -, d4⟩, -, ⟨-, -, -, b4⟩, ⟨-, s1, s3⟩, -⟩ := id hq
  intro m
  induction m with
  | zero =>
    intro j N hj hN
    cases N with
    | zero => omega
    | succ N =>
      rw [f_X12_isTangled_L2, show q.2.2.2.2.2.1 = nI as from s1, if_pos ((nI_leI (by omega) (by omega)).mpr (by omega))]
      rfl
  | succ m ih =>
    intro j N hj hN
    cases N with
    | zero => omega
    | succ N =>
      have e := ih (j + 1) N (by omega) (by omega)
      rw [f_X12_isTangled_L2, show q.2.2.2.2.2.1 = nI as from s1, if_neg (show ¬ nI as ≤ nI j by rw [nI_leI (by omega) (by omega)]; omega), f_X12_isTangled_J60, nI_1, e, tga]
      by_cases c : j = k
      · subst c
        rw [if_pos rfl]
        unfold tgo
        rw [decide_eq_true (rfl : j = j)]
        cases σ j <;> rfl
      · rw [if_neg (show ¬ nI j = nI k from fun z => c (nI_ij (by omega) (by omega) z)), i18, i18, gA_in (vin (show 18 + j < 26 by omega) (by omega)), nI_clamp (show 18 + j < 2 ^ 31 by omega), nI_clamp (show 18 + k < 2 ^ 31 by omega)]
        unfold tgo
        rw [decide_eq_false c]
        rcases hl j (by omega) with ⟨o1, -, o2⟩ | ⟨s, f, b, o1, a1, a2, a3, a4, -, o2⟩
        · rw [o1, if_pos o2]
          rfl
        · rcases hl k (by omega) with ⟨z1, -, -⟩ | ⟨s', f', b', z1, c1, c2, c3, c4, -, z2⟩
          · rw [hu] at z1
            exact absurd z1 (by simp)
          obtain rfl : u = s' := by
            rw [hu] at z1
            exact Option.some.inj z1
          rw [o1, if_neg (show ¬ v (18 + j) = -2 by rw [o2]; exact nI_m2 (by have := cd_b a1 a3 a4 s4 d4 b4; omega)), o2, z2, gA_in (vin (show 18 + k < 26 by omega) (by omega)), mspo hq c1 c2 c3 c4, Option.bind_some, gA_in (vin (show 18 + j < 26 by omega) (by omega)), mspo hq a1 a2 a3 a4, Option.bind_some, tgm hq hk (by omega), Option.bind_some]
          dsimp only
          cases tg q k u j s
          · rw [bI_0, if_pos rfl]
            rfl
          · rw [bI_1, if_neg one_ne]
            rfl
/-- whether a line is out and free of all others -/
def gfr (q : TX11_q) (as : Nat) (σ : Nat → Option Nat) (k : Nat) : Bool := match σ k with | none => false | some u => !tga q σ k u as 0
theorem shb : ∀ B, B < 32 → ∀ k, k < 5 → (nI B ||| ((1 : Int32) <<< (nI k &&& 31)) = nI (B ||| 2 ^ k)) ∧ (((nI B >>> (nI k &&& 31)) &&& (1 : Int32)) = if B.testBit k then 1 else 0) := by decide +kernel
theorem unt_L (hq : PQ p q sp de ba as an bi cf ct) {σ : Nat → Option Nat} (hl : LSp sp de ba σ n.2.2.2.2.2.2 v) : ∀ (m j N B : Nat), j + m = as → m < N → B < 32 → (∀ i, i < j → B.testBit i = gfr q as σ i) → (∀ i, j ≤ i → B.testBit i = false) → ∃ B', B' < 32 ∧ f_X1_untangled_L4 p n N (nI j) (nI B) = some (nI B') ∧ ∀ i, i < as → B'.testBit i = gfr q as σ i := by
  obtain ⟨⟨-, -, -, s4⟩, ⟨-, -, -, d4⟩, -, ⟨-, -, -, b4⟩, ⟨s1, -, s3⟩, -⟩ := id hq
  intro m
  induction m with
  | zero =>
    intro j N B hj hN hB h1 h2
    cases N with
    | zero => omega
    | succ N =>
      rw [f_X1_untangled_L4, show p.2.2.2.2.2.1 = nI as from s1, if_pos ((nI_leI (by omega) (by omega)).mpr (by omega))]
      exact ⟨B, hB, rfl, fun i hi => h1 i (by omega)⟩
  | succ m ih =>
    intro j N B hj hN hB h1 h2
    cases N with
    | zero => omega
    | succ N =>
      have stay : gfr q as σ j = false → ∃ B', B' < 32 ∧ f_X1_untangled_L4 p n N (nI (j + 1)) (nI B) = some (nI B') ∧ ∀ i, i < as → B'.testBit i = gfr q as σ i := fun z => ih (j + 1) N B (by omega) (by omega) hB (fun i hi => by
        by_cases c : i = j
        · rw [c, z]
          exact h2 j (Nat.le_refl j)
        · exact h1 i (by omega)) (fun i hi => h2 i (by omega))
      have more : gfr q as σ j = true → ∃ B', B' < 32 ∧ f_X1_untangled_L4 p n N (nI (j + 1)) (nI (B ||| 2 ^ j)) = some (nI B') ∧ ∀ i, i < as → B'.testBit i = gfr q as σ i := fun z => ih (j + 1) N (B ||| 2 ^ j) (by omega) (by omega) (Nat.or_lt_two_pow (n := 5) hB (Nat.pow_lt_pow_right (by omega) (show j < 5 by omega))) (fun i hi => by
        rw [Nat.testBit_or, Nat.testBit_two_pow]
        by_cases c : i = j
        · rw [c, z, decide_eq_true rfl, Bool.or_true]
        · rw [h1 i (by omega), decide_eq_false (fun z => c z.symm), Bool.or_false]) (fun i hi => by
        rw [Nat.testBit_or, Nat.testBit_two_pow, h2 i (by omega), decide_eq_false (by omega)]
        rfl)
      rw [f_X1_untangled_L4, show p.2.2.2.2.2.1 = nI as from s1, if_neg (show ¬ nI as ≤ nI j by rw [nI_leI (by omega) (by omega)]; omega), gA_in (vin (show j < 5 by omega) (by omega)), gA_in (vin (show j < 5 by omega) (by omega)), nI_clamp (show j < 2 ^ 31 by omega)]
      dsimp only [nm]
      rw [f_X1_untangled_J46, f_X1_untangled_J46, nI_1, (shb B hB j (by omega)).1]
      rcases hl j (by omega) with ⟨o1, o2, -⟩ | ⟨s, f, b, o1, a1, a2, a3, a4, o2, -⟩
      · rw [if_pos o2]
        exact stay (by unfold gfr; rw [o1])
      · rw [if_neg (show ¬ n.2.2.2.2.2.2 j = -1 by rw [o2]; exact nI_m1 (by omega)), o2, sp_of (by omega) (by omega) (by omega), f_X4_isTangled, show f_X4_isTangled_L3 (nI j) (nI s) n p FU 0 = _ from tgl_x hq hl (show j < as by omega) a1 as 0 FU (by omega) (by unfold FU; omega), Option.bind_some]
        cases ct : tga q σ j s as 0
        · rw [bI_0, if_pos rfl]
          exact more (by unfold gfr; rw [o1]; dsimp only; rw [ct]; rfl)
        · rw [bI_1, if_neg one_ne]
          exact stay (by unfold gfr; rw [o1]; dsimp only; rw [ct]; rfl)
end OUT
