/-! bounds, and functions that answer within bounds -/
def R32 (l h : Int) (x : Int32) : Prop := l ≤ x.toInt ∧ x.toInt ≤ h
def RA (l h : Int) (a : Nat → Int32) : Prop := ∀ j, R32 l h (a j)
def TotP {α : Type} (x : Option α) (Q : α → Prop) : Prop := ∃ r, x = some r ∧ Q r
theorem u1 {b : Int32} : (b &&& 1).toInt = b.toInt % 2 := by
  have := Kit.i32_mask b 1 (k := 1) (by decide) (by decide)
  simpa using this
section RR
variable {l h l1 h1 l2 h2 l' h' : Int} {x y : Int32}
theorem r_w (a : R32 l h x) (b : l' ≤ l) (c : h ≤ h') : R32 l' h' x := ⟨Int.le_trans b a.1, Int.le_trans a.2 c⟩
theorem ra_w {a : Nat → Int32} (r : RA l h a) (b : l' ≤ l) (c : h ≤ h') : RA l' h' a := fun j => r_w (r j) b c
theorem r_top (x : Int32) : R32 (-2147483648) (2147483647) x := by
  have a := x.minValue_le_toInt
  have b := x.toInt_le
  have e1 : Int32.minValue.toInt = -2147483648 := by decide
  have e2 : Int32.maxValue.toInt = 2147483647 := by decide
  exact ⟨by omega, by omega⟩
theorem r_n (a : l ≤ x.toInt) (b : x.toInt ≤ h) : R32 l h x := ⟨a, b⟩
theorem r_add (a : R32 l1 h1 x) (b : R32 l2 h2 y) (e1 : -2147483648 ≤ l1 + l2) (e2 : h1 + h2 ≤ 2147483647) (e3 : l ≤ l1 + l2) (e4 : h1 + h2 ≤ h) : R32 l h (x + y) := by
  obtain ⟨a1, a2⟩ := a
  obtain ⟨b1, b2⟩ := b
  have e := iadd_t (x := x) (y := y) (by omega) (by omega)
  exact ⟨by omega, by omega⟩
theorem r_sub (a : R32 l1 h1 x) (b : R32 l2 h2 y) (e1 : -2147483648 ≤ l1 - h2) (e2 : h1 - l2 ≤ 2147483647) (e3 : l ≤ l1 - h2) (e4 : h1 - l2 ≤ h) : R32 l h (x - y) := by
  obtain ⟨a1, a2⟩ := a
  obtain ⟨b1, b2⟩ := b
  have e := isub_t (x := x) (y := y) (by omega) (by omega)
  exact ⟨by omega, by omega⟩
theorem r_mul (a : R32 l1 h1 x) (b : R32 l2 h2 y) (p1 : 0 ≤ l1) (p2 : 0 ≤ l2) (e2 : h1 * h2 ≤ 2147483647) (e3 : l ≤ l1 * l2) (e4 : h1 * h2 ≤ h) : R32 l h (x * y) := by
  obtain ⟨a1, a2⟩ := a
  obtain ⟨b1, b2⟩ := b
  have m1 : l1 * l2 ≤ x.toInt * y.toInt := Int.mul_le_mul a1 b1 p2 (by omega)
  have m2 : x.toInt * y.toInt ≤ h1 * h2 := Int.mul_le_mul a2 b2 (by omega) (by omega)
  have m3 : 0 ≤ l1 * l2 := Int.mul_nonneg p1 p2
  have e := imul_t (x := x) (y := y) (by omega) (by omega)
  exact ⟨by omega, by omega⟩
theorem r_div {c : Int} (a : R32 l1 h1 x) (b : R32 c c y) (p1 : 0 ≤ l1) (p2 : 0 < c) (e3 : l ≤ l1 / c) (e4 : h1 / c ≤ h) : R32 l h (x / y) := by
  obtain ⟨a1, a2⟩ := a
  obtain ⟨b1, b2⟩ := b
  have ey : y.toInt = c := by omega
  have e := idiv_t (x := x) (y := y) (by omega) (by omega)
  rw [ey] at e
  have d1 : l1 / c ≤ x.toInt / c := Int.ediv_le_ediv p2 a1
  have d2 : x.toInt / c ≤ h1 / c := Int.ediv_le_ediv p2 a2
  exact ⟨by omega, by omega⟩
theorem r_mod {c : Int} (a : R32 l1 h1 x) (p1 : 0 ≤ l1) (p2 : 0 < c) (ey : y.toInt = c) (e4 : c - 1 ≤ h) : R32 0 h (x - x / y * y) := by
  obtain ⟨a1, a2⟩ := a
  have e := irem_t (x := x) (y := y) (by omega) (by omega)
  rw [ey] at e
  have d1 : 0 ≤ x.toInt % c := Int.emod_nonneg _ (by omega)
  have d2 : x.toInt % c < c := Int.emod_lt_of_pos _ p2
  exact ⟨by omega, by omega⟩
theorem r_and1 : R32 0 1 (x &&& (1 : Int32)) := by
  have e := u1 (b := x)
  exact ⟨by omega, by omega⟩
theorem ra_upd {a : Nat → Int32} {i : Nat} (r : RA l h a) (v : R32 l h x) : RA l h (upd a i x) := by
  intro j
  unfold upd
  split
  · exact v
  · exact r j
theorem ra_cpy {a b : Nat → Int32} {i j n : Nat} (r : RA l h a) (v : RA l h b) : RA l h (va_cpy a b i j n) := by
  intro k
  unfold va_cpy
  split
  · exact r _
  · exact v _
theorem r_eq1 (e1 : l ≤ l1 ∨ l ≤ l2) (e2 : h1 ≤ h ∨ h2 ≤ h) (a : R32 l1 h1 x) (b : R32 l2 h2 y) (c : x = y) : R32 l h x := by
  subst c
  obtain ⟨a1, a2⟩ := a
  obtain ⟨b1, b2⟩ := b
  exact ⟨by omega, by omega⟩
theorem r_eq2 (e1 : l ≤ l1 ∨ l ≤ l2) (e2 : h1 ≤ h ∨ h2 ≤ h) (a : R32 l1 h1 x) (b : R32 l2 h2 y) (c : x = y) : R32 l h y := by
  subst c
  obtain ⟨a1, a2⟩ := a
  obtain ⟨b1, b2⟩ := b
  exact ⟨by omega, by omega⟩
theorem r_ne {z : Int} (a : R32 l1 h1 x) (b : R32 z z y) (c : ¬ x = y) : ¬ x.toInt = z := by
  intro q
  refine c ((fa_eq x y).mpr ?_)
  obtain ⟨b1, b2⟩ := b
  omega
theorem r_neL {z : Int} (e : l = z + 1) (a : R32 z h1 x) (b : R32 z z y) (c : ¬ x = y) : R32 l h1 x := by
  have q := r_ne a b c
  obtain ⟨a1, a2⟩ := a
  exact ⟨by omega, a2⟩
theorem r_neH {z : Int} (e : h = z - 1) (a : R32 l1 z x) (b : R32 z z y) (c : ¬ x = y) : R32 l1 h x := by
  have q := r_ne a b c
  obtain ⟨a1, a2⟩ := a
  exact ⟨a1, by omega⟩
theorem r_le1 (a : R32 l1 h1 x) (b : R32 l2 h2 y) (c : x ≤ y) : R32 l1 h2 x := ⟨a.1, Int.le_trans ((fa_le x y).mp c) b.2⟩
theorem r_le2 (a : R32 l1 h1 x) (b : R32 l2 h2 y) (c : x ≤ y) : R32 l1 h2 y := ⟨Int.le_trans a.1 ((fa_le x y).mp c), b.2⟩
theorem r_nlt0 (c : ¬ x < y) : y.toInt ≤ x.toInt := by
  rw [fa_lt] at c
  omega
theorem r_nle0 (c : ¬ x ≤ y) : y.toInt < x.toInt := by
  rw [fa_le] at c
  omega
theorem r_nlt1 (a : R32 l1 h1 x) (b : R32 l2 h2 y) (c : ¬ x < y) : R32 l2 h1 x := ⟨Int.le_trans b.1 (r_nlt0 c), a.2⟩
theorem r_nlt2 (a : R32 l1 h1 x) (b : R32 l2 h2 y) (c : ¬ x < y) : R32 l2 h1 y := ⟨b.1, Int.le_trans (r_nlt0 c) a.2⟩
theorem r_lt1 (e : h = h2 - 1) (a : R32 l1 h1 x) (b : R32 l2 h2 y) (c : x < y) : R32 l1 h x := by
  rw [fa_lt] at c
  obtain ⟨a1, a2⟩ := a
  obtain ⟨b1, b2⟩ := b
  exact ⟨by omega, by omega⟩
theorem r_lt2 (e : l = l1 + 1) (a : R32 l1 h1 x) (b : R32 l2 h2 y) (c : x < y) : R32 l h2 y := by
  rw [fa_lt] at c
  obtain ⟨a1, a2⟩ := a
  obtain ⟨b1, b2⟩ := b
  exact ⟨by omega, by omega⟩
theorem r_nle1 (e : l = l2 + 1) (a : R32 l1 h1 x) (b : R32 l2 h2 y) (c : ¬ x ≤ y) : R32 l h1 x := by
  have q := r_nle0 c
  obtain ⟨a1, a2⟩ := a
  obtain ⟨b1, b2⟩ := b
  exact ⟨by omega, by omega⟩
theorem r_nle2 (e : h = h1 - 1) (a : R32 l1 h1 x) (b : R32 l2 h2 y) (c : ¬ x ≤ y) : R32 l2 h y := by
  have q := r_nle0 c
  obtain ⟨a1, a2⟩ := a
  obtain ⟨b1, b2⟩ := b
  exact ⟨by omega, by omega⟩
theorem r_hole {z : Int32} (a : x = z ∨ R32 l h x) (e1 : l' ≤ z.toInt ∧ l' ≤ l) (e2 : z.toInt ≤ h ∧ h ≤ h') : R32 l' h' x := by
  rcases a with a | a
  · subst a
    exact ⟨e1.1, Int.le_trans e2.1 e2.2⟩
  · exact r_w a e1.2 e2.2
theorem d_ne1 (a : R32 l1 h1 x) (b : R32 l2 h2 y) (e : h1 < l2) : ¬ x = y := by
  intro c
  subst c
  obtain ⟨a1, a2⟩ := a
  obtain ⟨b1, b2⟩ := b
  omega
theorem d_ne2 (a : R32 l1 h1 x) (b : R32 l2 h2 y) (e : h2 < l1) : ¬ x = y := by
  intro c
  subst c
  obtain ⟨a1, a2⟩ := a
  obtain ⟨b1, b2⟩ := b
  omega
theorem d_eq {z : Int} (a : R32 z z x) (b : R32 z z y) : x = y := by
  refine (fa_eq x y).mpr ?_
  obtain ⟨a1, a2⟩ := a
  obtain ⟨b1, b2⟩ := b
  omega
theorem d_le (a : R32 l1 h1 x) (b : R32 l2 h2 y) (e : h1 ≤ l2) : x ≤ y := (fa_le x y).mpr (Int.le_trans a.2 (Int.le_trans e b.1))
theorem d_nle (a : R32 l1 h1 x) (b : R32 l2 h2 y) (e : h2 < l1) : ¬ x ≤ y := by
  intro c
  rw [fa_le] at c
  obtain ⟨a1, a2⟩ := a
  obtain ⟨b1, b2⟩ := b
  omega
theorem d_lt (a : R32 l1 h1 x) (b : R32 l2 h2 y) (e : h1 < l2) : x < y := by
  rw [fa_lt]
  obtain ⟨a1, a2⟩ := a
  obtain ⟨b1, b2⟩ := b
  omega
theorem d_nlt (a : R32 l1 h1 x) (b : R32 l2 h2 y) (e : h2 ≤ l1) : ¬ x < y := by
  intro c
  rw [fa_lt] at c
  obtain ⟨a1, a2⟩ := a
  obtain ⟨b1, b2⟩ := b
  omega
theorem fu_up {B : Int} (a : R32 l h x) (e : B - l < 1000000) : B - x.toInt < ((FU : Nat) : Int) := by
  unfold FU
  have b := a.1
  omega
theorem fu_dn {B : Int} (a : R32 l h x) (e : h - B < 1000000) : x.toInt - B < ((FU : Nat) : Int) := by
  unfold FU
  have b := a.2
  omega
theorem ms_up {B : Int} {n : Nat} (a : R32 l h x) (e1 : 1 ≤ y.toInt) (e2 : -2147483648 ≤ l) (e3 : h + y.toInt ≤ 2147483647) (hm : B - x.toInt < ((n + 1 : Nat) : Int)) : B - (x + y).toInt < (n : Int) := by
  obtain ⟨a1, a2⟩ := a
  have e := iadd_t (x := x) (y := y) (by omega) (by omega)
  omega
theorem ms_dn {B : Int} {n : Nat} (a : R32 l h x) (e1 : y.toInt ≤ -1) (e2 : h ≤ 2147483647) (e3 : -2147483648 ≤ l + y.toInt) (hm : x.toInt - B < ((n + 1 : Nat) : Int)) : (x + y).toInt - B < (n : Int) := by
  obtain ⟨a1, a2⟩ := a
  have e := iadd_t (x := x) (y := y) (by omega) (by omega)
  omega
theorem ms_0u (a : R32 l h x) (hm : h - x.toInt < ((0 : Nat) : Int)) : False := by
  have b := a.2
  omega
theorem ms_0d (a : R32 l h x) (hm : x.toInt - l < ((0 : Nat) : Int)) : False := by
  have b := a.1
  omega
end RR
section TT
variable {α β γ : Type} {Q : β → Prop}
theorem tp_s {r : β} (h : Q r) : TotP (some r) Q := ⟨r, rfl, h⟩
theorem tp_w {x : Option β} {P : β → Prop} (h : TotP x P) (w : ∀ r, P r → Q r) : TotP x Q := by
  obtain ⟨r, a, b⟩ := h
  exact ⟨r, a, w r b⟩
theorem tp_if {c : Prop} [Decidable c] {a b : Option β} (h1 : c → TotP a Q) (h2 : ¬ c → TotP b Q) : TotP (if c then a else b) Q := by
  by_cases h : c
  · rw [if_pos h]; exact h1 h
  · rw [if_neg h]; exact h2 h
theorem tp_ift {c : Prop} [Decidable c] {a b : Option β} (h : c) (k : TotP a Q) : TotP (if c then a else b) Q := by
  rw [if_pos h]; exact k
theorem tp_iff {c : Prop} [Decidable c] {a b : Option β} (h : ¬ c) (k : TotP b Q) : TotP (if c then a else b) Q := by
  rw [if_neg h]; exact k
theorem tp_g {l h : Int} {i : Int32} {n : Nat} {k : Option β} (a : R32 l h i) (e1 : 0 ≤ l) (e2 : h < (n : Int)) (t : TotP k Q) : TotP (gA i n k) Q := by
  rw [gA_in (vp_in_iff.mpr ⟨Int.le_trans e1 a.1, Int.lt_of_le_of_lt a.2 e2⟩)]
  exact t
theorem tp_zp {l h : Int} {y : Int32} {k : Option β} (a : R32 l h y) (e : 0 < l) (t : TotP k Q) : TotP (gZi y k) Q := by
  rw [gZi_ne (fun z => by rw [z] at a; have b := a.1; have q : (0 : Int32).toInt = 0 := by decide
                          omega)]
  exact t
theorem tp_zn {l h : Int} {y : Int32} {k : Option β} (a : R32 l h y) (e : h < 0) (t : TotP k Q) : TotP (gZi y k) Q := by
  rw [gZi_ne (fun z => by rw [z] at a; have b := a.2; have q : (0 : Int32).toInt = 0 := by decide
                          omega)]
  exact t
theorem tp_zc {y : Int32} {k : Option β} (a : ¬ y = 0) (t : TotP k Q) : TotP (gZi y k) Q := by
  rw [gZi_ne a]; exact t
theorem tp_zl {y : Int64} {k : Option β} (a : ¬ y = 0) (t : TotP k Q) : TotP (gZl y k) Q := by
  rw [gZl_ne a]; exact t
theorem tp_b {x : Option α} {P : α → Prop} {k : α → Option β} (h : TotP x P) (t : ∀ r, P r → TotP (k r) Q) : TotP (x.bind k) Q := by
  obtain ⟨r, a, b⟩ := h
  rw [a, Option.bind_some]
  exact t r b
theorem tp_n {x : α} {P : α → Prop} {k : α → Option β} (h : P x) (t : ∀ r, P r → TotP (k r) Q) : TotP (nm x k) Q := t x h
theorem tp_n0 {x : α} {k : α → Option β} (t : ∀ r, TotP (k r) Q) : TotP (nm x k) Q := t x
theorem tp_nl {x : α} {k : α → Option β} (t : TotP (k x) Q) : TotP (nm x k) Q := t
theorem tp_nn {x : α} {g : α → γ} {k : γ → Option β} (t : TotP (nm x (fun z => nm (g z) k)) Q) : TotP (nm (nm x g) k) Q := t
theorem tp_e {x y : α} {k : α → Option β} (e : x = y) (t : TotP (nm y k) Q) : TotP (nm x k) Q := by
  rw [e]; exact t
theorem tp_nif {c : Prop} [Decidable c] {a b : α} {k : α → Option β} (h1 : c → TotP (nm a k) Q) (h2 : ¬ c → TotP (nm b k) Q) : TotP (nm (if c then a else b) k) Q := by
  by_cases h : c
  · rw [if_pos h]; exact h1 h
  · rw [if_neg h]; exact h2 h
theorem tp_nift {c : Prop} [Decidable c] {a b : α} {k : α → Option β} (h : c) (t : TotP (nm a k) Q) : TotP (nm (if c then a else b) k) Q := by
  rw [if_pos h]; exact t
theorem tp_niff {c : Prop} [Decidable c] {a b : α} {k : α → Option β} (h : ¬ c) (t : TotP (nm b k) Q) : TotP (nm (if c then a else b) k) Q := by
  rw [if_neg h]; exact t
theorem tp_u {x y : Option β} (e : x = y) (t : TotP y Q) : TotP x Q := by
  rw [e]; exact t
theorem tp_bu {x y : Option α} {k : α → Option β} (e : x = y) (t : TotP (y.bind k) Q) : TotP (x.bind k) Q := by
  rw [e]; exact t
theorem tp_bif {c : Prop} [Decidable c] {a b : Option α} {k : α → Option β} (h1 : c → TotP (a.bind k) Q) (h2 : ¬ c → TotP (b.bind k) Q) : TotP ((if c then a else b).bind k) Q := by
  by_cases h : c
  · rw [if_pos h]; exact h1 h
  · rw [if_neg h]; exact h2 h
theorem tp_bift {c : Prop} [Decidable c] {a b : Option α} {k : α → Option β} (h : c) (t : TotP (a.bind k) Q) : TotP ((if c then a else b).bind k) Q := by
  rw [if_pos h]; exact t
theorem tp_biff {c : Prop} [Decidable c] {a b : Option α} {k : α → Option β} (h : ¬ c) (t : TotP (b.bind k) Q) : TotP ((if c then a else b).bind k) Q := by
  rw [if_neg h]; exact t
theorem tp_bn {x : γ} {g : γ → Option α} {k : α → Option β} (t : TotP (nm x (fun z => (g z).bind k)) Q) : TotP ((nm x g).bind k) Q := t
theorem tp_bs {x : α} {k : α → Option β} (t : TotP (k x) Q) : TotP ((some x).bind k) Q := t
theorem tp_bg {l h : Int} {i : Int32} {n : Nat} {x : Option α} {k : α → Option β} (a : R32 l h i) (e1 : 0 ≤ l) (e2 : h < (n : Int)) (t : TotP (x.bind k) Q) : TotP ((gA i n x).bind k) Q := by
  rw [gA_in (vp_in_iff.mpr ⟨Int.le_trans e1 a.1, Int.lt_of_le_of_lt a.2 e2⟩)]
  exact t
end TT
