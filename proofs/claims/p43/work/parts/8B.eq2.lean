/-! wishes, and calls that ask the pier alone -/
theorem nI_mul (a b : Nat) : nI a * nI b = nI (a * b) := (Int32.ofNat_mul a b).symm
theorem qu_n (s f b : Nat) : f_X10_question (nI s) (nI f) (nI b) = nI (100 * s + 10 * f + b) := by
  unfold f_X10_question
  rw [show (100 : Int32) * nI s = nI (100 * s) from nI_mul 100 s, show (10 : Int32) * nI f = nI (10 * f) from nI_mul 10 f, nI_add, nI_add]
theorem sp_of {s f b : Nat} (hs : s ≤ 100) (hf : f ≤ 9) (hb : b ≤ 9) : f_X10_spotOf (nI (100 * s + 10 * f + b)) = nI s := by
  unfold f_X10_spotOf
  rw [show (100 : Int32) = nI 100 from rfl, pk_div (by omega) (by omega) (by omega)]
  exact congrArg nI (by omega)
theorem fa_of {s f b : Nat} (hs : s ≤ 100) (hf : f ≤ 9) (hb : b ≤ 9) : f_X10_fathomsOf (nI (100 * s + 10 * f + b)) = nI f := by
  unfold f_X10_fathomsOf
  dsimp only [nm]
  rw [show (10 : Int32) = nI 10 from rfl, pk_div (by omega) (by omega) (by omega), pk_rem (by omega) (by omega) (by omega)]
  exact congrArg nI (by omega)
theorem ba_of {s f b : Nat} (hs : s ≤ 100) (hf : f ≤ 9) (hb : b ≤ 9) : f_X10_baitOf (nI (100 * s + 10 * f + b)) = nI b := by
  unfold f_X10_baitOf
  rw [show (10 : Int32) = nI 10 from rfl, pk_rem (by omega) (by omega) (by omega)]
  exact congrArg nI (by omega)
theorem l10_t {Z : Int32} (h1 : 0 ≤ Z.toInt) (h2 : Z.toInt ≤ 20) : ((10 : Int32) * Z).toInt = 10 * Z.toInt := by
  rw [imul_t (by rw [ltv_10]; omega) (by rw [ltv_10]; omega), ltv_10]
theorem l8_t {Z : Int32} (h1 : 0 ≤ Z.toInt) (h2 : Z.toInt ≤ 20) : ((8 : Int32) * Z).toInt = 8 * Z.toInt := by
  rw [imul_t (by rw [ltv_8]; omega) (by rw [ltv_8]; omega), ltv_8]
theorem lin_0 {hu Z : Int32} (h1 : 0 ≤ hu.toInt) (h2 : hu.toInt ≤ 99) (z1 : 0 ≤ Z.toInt) (z2 : Z.toInt ≤ 20) : (hu - 10 * Z).toInt = hu.toInt - 10 * Z.toInt := by
  rw [isub_t (by rw [l10_t z1 z2]; omega) (by rw [l10_t z1 z2]; omega), l10_t z1 z2]
theorem lin_t {hu Z t : Int32} (h1 : 0 ≤ hu.toInt) (h2 : hu.toInt ≤ 99) (z1 : 0 ≤ Z.toInt) (z2 : Z.toInt ≤ 20) (t1 : -20 ≤ t.toInt) (t2 : t.toInt ≤ 20) : ((hu - 10 * Z) + t).toInt = hu.toInt - 10 * Z.toInt + t.toInt := by
  rw [iadd_t (by rw [lin_0 h1 h2 z1 z2]; omega) (by rw [lin_0 h1 h2 z1 z2]; omega), lin_0 h1 h2 z1 z2]
theorem lin_8 {v Z : Int32} (h1 : -1000 ≤ v.toInt) (h2 : v.toInt ≤ 1000) (z1 : 0 ≤ Z.toInt) (z2 : Z.toInt ≤ 20) : (v - 8 * Z).toInt = v.toInt - 8 * Z.toInt := by
  rw [isub_t (by rw [l8_t z1 z2]; omega) (by rw [l8_t z1 z2]; omega), l8_t z1 z2]
theorem lin_m {hu Z t : Int32} (h1 : 0 ≤ hu.toInt) (h2 : hu.toInt ≤ 99) (z1 : 0 ≤ Z.toInt) (z2 : Z.toInt ≤ 20) (t1 : -20 ≤ t.toInt) (t2 : t.toInt ≤ 20) : ((hu + t) - 10 * Z).toInt = hu.toInt - 10 * Z.toInt + t.toInt := by
  have e : (hu + t).toInt = hu.toInt + t.toInt := iadd_t (by omega) (by omega)
  rw [isub_t (by rw [l10_t z1 z2, e]; omega) (by rw [l10_t z1 z2, e]; omega), l10_t z1 z2, e]
  omega
/-- the WISH of an answer, by some hunger, for a question -/
def wI (q : TX11_q) (a : Nat) (hu : Int) (s f b : Nat) : Int := cI (hu - 10 * aI ((s : Int) - (qSt q a).toInt) + (if qKi q a = 3 then -20 else if qLi q a = nI b then 20 else 0) - (if qKi q a = 2 then 0 else 8 * aI ((f : Int) - (qDp q a).toInt)))
section WISHES
variable {p : TX6_p} {q : TX11_q} {sp de ba as an bi cf ct : Nat}
theorem wj53 (h : PQ p q sp de ba as an bi cf ct) {a s f b : Nat} (ha : a < an) (hs : s < sp) (hf : f ≤ de) (hb : b < ba) (v : Int32) (h1 : -1000 ≤ v.toInt) (h2 : v.toInt ≤ 1000) : ∃ r, f_X6_wishBy_J53 (nI a) (nI (100 * s + 10 * f + b)) p v = some r ∧ r.toInt = cI (v.toInt - (if qKi q a = 2 then 0 else 8 * aI ((f : Int) - (qDp q a).toInt))) := by
  obtain ⟨⟨a1, a2, a3, a4⟩, ⟨b1, b2, b3, b4⟩, -, ⟨c1, c2, c3, c4⟩, -, ⟨n1, n2, n3⟩, -, -, -, hw, -⟩ := h
  obtain ⟨⟨k1, k2, k3⟩, -, ⟨d1, d2, d3⟩, -, -, -⟩ := hw a ha
  rw [b2, nI_toInt (by omega)] at d3
  have hv : vp_in (nI a) 6 := vin (by omega) (by omega)
  have ef : (nI f).toInt = (f : Int) := nI_toInt (by omega)
  have eY0 : (nI f - qDp q a).toInt = (f : Int) - (qDp q a).toInt := by rw [isub_t (by rw [ef]; omega) (by rw [ef]; omega), ef]
  have eY : (iabs (nI f - qDp q a)).toInt = aI ((f : Int) - (qDp q a).toInt) := by rw [iabs_t (by rw [eY0]; omega) (by rw [eY0]; omega), eY0]
  have bY := aI_b (x := (f : Int) - (qDp q a).toInt) (n := 10) (by omega) (by omega)
  simp only [f_X6_wishBy_J53, f_X6_wishBy_J85, nm, gA_in hv, nI_clamp (show a < 2 ^ 31 by omega), fa_of (show s ≤ 100 by omega) (show f ≤ 9 by omega) (show b ≤ 9 by omega), k1, d1]
  by_cases c2 : qKi q a = 2
  · rw [if_pos c2, if_pos c2]
    refine ⟨_, rfl, ?_⟩
    rw [mm_t]
    exact congrArg cI (by omega)
  · rw [if_neg c2, if_neg c2]
    refine ⟨_, rfl, ?_⟩
    rw [mm_t, lin_8 h1 h2 (by rw [eY]; omega) (by rw [eY]; omega), eY]
theorem wx (h : PQ p q sp de ba as an bi cf ct) {a s f b : Nat} (ha : a < an) (hs : s < sp) (hf : f ≤ de) (hb : b < ba) {hu : Int32} (h1 : 0 ≤ hu.toInt) (h2 : hu.toInt ≤ 99) : ∃ r, f_X6_wishBy (nI a) hu (nI (100 * s + 10 * f + b)) p = some r ∧ r.toInt = wI q a hu.toInt s f b := by
  have W := wj53 h ha hs hf hb
  obtain ⟨⟨a1, a2, a3, a4⟩, ⟨b1, b2, b3, b4⟩, -, ⟨c1, c2, c3, c4⟩, -, ⟨n1, n2, n3⟩, -, -, -, hw, -⟩ := h
  obtain ⟨⟨k1, k2, k3⟩, ⟨t1, t2, t3⟩, -, -, ⟨l1, l2, l3⟩, -⟩ := hw a ha
  rw [a2, nI_toInt (by omega)] at t3
  have hv : vp_in (nI a) 6 := vin (by omega) (by omega)
  have es : (nI s).toInt = (s : Int) := nI_toInt (by omega)
  have eZ0 : (nI s - qSt q a).toInt = (s : Int) - (qSt q a).toInt := by rw [isub_t (by rw [es]; omega) (by rw [es]; omega), es]
  have eZ : (iabs (nI s - qSt q a)).toInt = aI ((s : Int) - (qSt q a).toInt) := by rw [iabs_t (by rw [eZ0]; omega) (by rw [eZ0]; omega), eZ0]
  have bZ := aI_b (x := (s : Int) - (qSt q a).toInt) (n := 10) (by omega) (by omega)
  simp only [f_X6_wishBy, nm, gA_in hv, nI_clamp (show a < 2 ^ 31 by omega), sp_of (show s ≤ 100 by omega) (show f ≤ 9 by omega) (show b ≤ 9 by omega), ba_of (show s ≤ 100 by omega) (show f ≤ 9 by omega) (show b ≤ 9 by omega), k1, t1, l1]
  unfold wI
  have L0 := lin_0 (Z := iabs (nI s - qSt q a)) h1 h2 (by rw [eZ]; omega) (by rw [eZ]; omega)
  rw [eZ] at L0
  have L : ∀ t : Int32, -20 ≤ t.toInt → t.toInt ≤ 20 → ((hu - 10 * iabs (nI s - qSt q a)) + t).toInt = hu.toInt - 10 * aI ((s : Int) - (qSt q a).toInt) + t.toInt := fun t t1 t2 => by rw [lin_t h1 h2 (by rw [eZ]; omega) (by rw [eZ]; omega) t1 t2, eZ]
  have fin : ∀ (t : Int32) (tt : Int), t.toInt = tt → -20 ≤ tt → tt ≤ 20 → ∃ r, f_X6_wishBy_J53 (nI a) (nI (100 * s + 10 * f + b)) p ((hu - 10 * iabs (nI s - qSt q a)) + t) = some r ∧ r.toInt = cI (hu.toInt - 10 * aI ((s : Int) - (qSt q a).toInt) + tt - (if qKi q a = 2 then 0 else 8 * aI ((f : Int) - (qDp q a).toInt))) := by
    intro t tt et t1 t2
    have Lt := L t (by omega) (by omega)
    rw [et] at Lt
    obtain ⟨r, e1, e2⟩ := W ((hu - 10 * iabs (nI s - qSt q a)) + t) (by rw [Lt]; omega) (by rw [Lt]; omega)
    rw [Lt] at e2
    exact ⟨r, e1, e2⟩
  by_cases c3 : qKi q a = 3
  · rw [if_pos c3, if_pos c3]
    exact fin (-20) (-20) (by decide) (by omega) (by omega)
  · rw [if_neg c3, if_neg c3]
    by_cases cl : qLi q a = nI b
    · rw [if_pos cl, if_pos cl]
      exact fin 20 20 (by decide) (by omega) (by omega)
    · rw [if_neg cl, if_neg cl, Int.add_zero]
      obtain ⟨r, e1, e2⟩ := W (hu - 10 * iabs (nI s - qSt q a)) (by rw [L0]; omega) (by rw [L0]; omega)
      rw [L0] at e2
      exact ⟨r, e1, e2⟩
theorem wm (h : PQ p q sp de ba as an bi cf ct) {a s f b : Nat} (ha : a < an) (hs : s < sp) (hf : f ≤ de) (hb : b < ba) {hu : Int32} (h1 : 0 ≤ hu.toInt) (h2 : hu.toInt ≤ 99) : ∃ r, f_X11_wishBy hu (nI a) (nI s) (nI f) (nI b) q = some r ∧ r.toInt = wI q a hu.toInt s f b := by
  obtain ⟨⟨a1, a2, a3, a4⟩, ⟨b1, b2, b3, b4⟩, -, ⟨c1, c2, c3, c4⟩, -, ⟨n1, n2, n3⟩, -, -, -, hw, -⟩ := h
  obtain ⟨⟨k1, k2, k3⟩, ⟨t1, t2, t3⟩, ⟨d1, d2, d3⟩, -, ⟨l1, l2, l3⟩, -⟩ := hw a ha
  rw [a2, nI_toInt (by omega)] at t3
  rw [b2, nI_toInt (by omega)] at d3
  have hv : vp_in (nI a) 6 := vin (by omega) (by omega)
  have es : (nI s).toInt = (s : Int) := nI_toInt (by omega)
  have ef : (nI f).toInt = (f : Int) := nI_toInt (by omega)
  have eZ : (f_X12_apart (qSt q a) (nI s)).toInt = aI ((s : Int) - (qSt q a).toInt) := by rw [apart_t (by omega) (by omega) (by rw [es]; omega) (by rw [es]; omega), es, aI_neg]
  have eY : (f_X12_apart (qDp q a) (nI f)).toInt = aI ((f : Int) - (qDp q a).toInt) := by rw [apart_t (by omega) (by omega) (by rw [ef]; omega) (by rw [ef]; omega), ef, aI_neg]
  have bZ := aI_b (x := (s : Int) - (qSt q a).toInt) (n := 10) (by omega) (by omega)
  have bY := aI_b (x := (f : Int) - (qDp q a).toInt) (n := 10) (by omega) (by omega)
  simp only [f_X11_wishBy, f_X11_wishBy_J33, f_X11_wishBy_J82, nm, gA_in hv, nI_clamp (show a < 2 ^ 31 by omega)]
  unfold wI
  have L : ∀ t : Int32, -20 ≤ t.toInt → t.toInt ≤ 20 → ((hu + t) - 10 * f_X12_apart (qSt q a) (nI s)).toInt = hu.toInt - 10 * aI ((s : Int) - (qSt q a).toInt) + t.toInt := fun t t1 t2 => by rw [lin_m h1 h2 (by rw [eZ]; omega) (by rw [eZ]; omega) t1 t2, eZ]
  have E8 : ∀ v : Int32, -1000 ≤ v.toInt → v.toInt ≤ 1000 → (v - 8 * f_X12_apart (qDp q a) (nI f)).toInt = v.toInt - 8 * aI ((f : Int) - (qDp q a).toInt) := fun v v1 v2 => by rw [lin_8 v1 v2 (by rw [eY]; omega) (by rw [eY]; omega), eY]
  have fin : ∀ (t : Int32) (tt : Int), t.toInt = tt → -20 ≤ tt → tt ≤ 20 → ∃ r, (if qKi q a = 2 then some (f_X11_cut ((hu + t) - 10 * f_X12_apart (qSt q a) (nI s))) else some (f_X11_cut (((hu + t) - 10 * f_X12_apart (qSt q a) (nI s)) - 8 * f_X12_apart (qDp q a) (nI f)))) = some r ∧ r.toInt = cI (hu.toInt - 10 * aI ((s : Int) - (qSt q a).toInt) + tt - (if qKi q a = 2 then 0 else 8 * aI ((f : Int) - (qDp q a).toInt))) := by
    intro t tt et t1 t2
    have Lt := L t (by omega) (by omega)
    rw [et] at Lt
    by_cases c2 : qKi q a = 2
    · rw [if_pos c2, if_pos c2]
      refine ⟨_, rfl, ?_⟩
      rw [cut_t, Lt]
      exact congrArg cI (by omega)
    · rw [if_neg c2, if_neg c2]
      refine ⟨_, rfl, ?_⟩
      rw [cut_t, E8 _ (by rw [Lt]; omega) (by rw [Lt]; omega), Lt]
  by_cases c3 : qKi q a = 3
  · rw [if_pos c3, if_pos c3]
    exact fin (-20) (-20) (by decide) (by omega) (by omega)
  · rw [if_neg c3, if_neg c3]
    by_cases cl : qLi q a = nI b
    · rw [if_pos cl, if_pos cl]
      exact fin 20 20 (by decide) (by omega) (by omega)
    · rw [if_neg cl, if_neg cl]
      exact fin 0 0 (by decide) (by omega) (by omega)
/-- the same WISH on both sides -/
theorem wish_by (h : PQ p q sp de ba as an bi cf ct) {a s f b : Nat} (ha : a < an) (hs : s < sp) (hf : f ≤ de) (hb : b < ba) {hu : Int32} (h1 : 0 ≤ hu.toInt) (h2 : hu.toInt ≤ 99) : ∃ r, f_X6_wishBy (nI a) hu (nI (100 * s + 10 * f + b)) p = some r ∧ f_X11_wishBy hu (nI a) (nI s) (nI f) (nI b) q = some r ∧ r.toInt = wI q a hu.toInt s f b := by
  obtain ⟨r, e1, e2⟩ := wx h ha hs hf hb h1 h2
  obtain ⟨r', e3, e4⟩ := wm h ha hs hf hb h1 h2
  obtain rfl : r' = r := Int32.toInt_inj.mp (e4.trans e2.symm)
  exact ⟨r', e1, e3, e2⟩
theorem wish_for (h : PQ p q sp de ba as an bi cf ct) {a s f b : Nat} (ha : a < an) (hs : s < sp) (hf : f ≤ de) (hb : b < ba) : ∃ r, f_X6_wishFor (nI a) (nI (100 * s + 10 * f + b)) p = some r ∧ f_X11_wish (nI a) (nI s) (nI f) (nI b) q = some r ∧ r.toInt = wI q a (qHu q a).toInt s f b := by
  obtain ⟨-, -, -, -, -, ⟨n1, n2, n3⟩, -, -, -, hw, -⟩ := id h
  obtain ⟨-, -, -, ⟨u1, u2, u3⟩, -⟩ := hw a ha
  obtain ⟨r, e1, e2, e3⟩ := wish_by h ha hs hf hb u2 u3
  have hv : vp_in (nI a) 6 := vin (by omega) (by omega)
  refine ⟨r, ?_, ?_, e3⟩
  · rw [f_X6_wishFor, gA_in hv, nI_clamp (by omega), show p.2.2.2.2.2.2.2.2.2.2.2.2.2.1 a = qHu q a from u1, e1, Option.bind_some]
  · rw [f_X11_wish, gA_in hv, nI_clamp (by omega)]
    show Option.bind (f_X11_wishBy (qHu q a) (nI a) (nI s) (nI f) (nI b) q) _ = _
    rw [e2, Option.bind_some]
theorem inF_of {k : Int32} {n : Nat} (h : inF k n) : ∃ f : Nat, 1 ≤ f ∧ f ≤ n ∧ k = nI f := by
  obtain ⟨j, hj, e⟩ := inn_of (show 0 ≤ k.toInt by have := h.1; omega)
  have h1 := h.1
  have h2 := h.2
  rw [e, nI_toInt hj] at h1 h2
  exact ⟨j, by omega, by omega, e⟩
theorem eq_wish (h : PQ p q sp de ba as an bi cf ct) (k1 k2 k3 k4 : Int32) (x : TX10_x) (t : TX12_t) : ∃ (r tr : Int32), f_X10_wish k1 k2 k3 k4 x p = some (r, (tr, x.2)) ∧ f_X12_wish k1 k2 k3 k4 t q = some (r, (0, tr, -1)) := by
  obtain ⟨tr, e1, e2, hc⟩ := wt_eq h k1 k2 k3 k4
  rw [f_X10_wish, f_X12_wish]
  dsimp only [nm]
  rw [e1, e2]
  rcases hc with hc | ⟨rfl, g1, g2, g3, g4⟩
  · have h0 : ¬ tr = 0 := by rcases hc with rfl | rfl <;> decide
    have h1 : ¬ tr ≤ 0 := by rcases hc with rfl | rfl <;> decide
    rw [ref_n h0, if_neg one_ne, if_neg h1]
    exact ⟨-1, tr, rfl, rfl⟩
  · obtain ⟨a, ha, rfl⟩ := inN_of g1
    obtain ⟨s, hs, rfl⟩ := inN_of g2
    obtain ⟨f, hf1, hf, rfl⟩ := inF_of g3
    obtain ⟨b, hb, rfl⟩ := inN_of g4
    obtain ⟨r, w1, w2, -⟩ := wish_for h ha hs hf hb
    rw [ref_0, if_pos rfl, qu_n, w1, Option.bind_some, if_pos (show (0 : Int32) ≤ 0 by decide), w2, Option.bind_some]
    exact ⟨r, 0, rfl, rfl⟩
theorem eq_hunger_L (h : PQ p q sp de ba as an bi cf ct) {a s f b : Nat} (ha : a < an) (hs : s < sp) (hf : f ≤ de) (hb : b < ba) (o : Int32 × TX10_x) (t : TX12_t) : ∀ (n : Nat) (v : Int32), 0 ≤ v.toInt → v.toInt ≤ 100 → ∃ w : Option Int32, f_X10_hungerFor_L30 (nI a) p o (nI (100 * s + 10 * f + b)) n v = w.map (fun r => (r, o.2)) ∧ f_X12_hungerFor_L35 (nI a) (nI s) (nI f) (nI b) t q n v = w.map (fun r => (r, (0, 0, -1))) := by
  intro n
  induction n with
  | zero => intro v _ _; exact ⟨none, rfl, rfl⟩
  | succ n ih =>
    intro v v1 v2
    rw [f_X10_hungerFor_L30, f_X12_hungerFor_L35]
    by_cases c : (99 : Int32) < v
    · rw [if_pos c, if_pos c]
      exact ⟨some (-2), rfl, rfl⟩
    · rw [if_neg c, if_neg c]
      rw [fa_lt, ltv_99] at c
      obtain ⟨r, w1, w2, -⟩ := wish_by h ha hs hf hb v1 (by omega)
      rw [w1, w2, Option.bind_some, Option.bind_some]
      by_cases c2 : r < 50
      · rw [if_pos c2, if_pos c2]
        have e : (v + 1).toInt = v.toInt + 1 := by rw [iadd_t (by rw [ltv_1]; omega) (by rw [ltv_1]; omega), ltv_1]
        exact ih (v + 1) (by omega) (by omega)
      · rw [if_neg c2, if_neg c2]
        exact ⟨some v, rfl, rfl⟩
theorem eq_hungerFor (h : PQ p q sp de ba as an bi cf ct) (k1 k2 k3 k4 : Int32) (x : TX10_x) (t : TX12_t) : ∃ (w : Option Int32) (tr : Int32), f_X10_hungerFor k1 k2 k3 k4 x p = w.map (fun r => (r, (tr, x.2))) ∧ f_X12_hungerFor k1 k2 k3 k4 t q = w.map (fun r => (r, (0, tr, -1))) := by
  obtain ⟨tr, e1, e2, hc⟩ := wt_eq h k1 k2 k3 k4
  rw [f_X10_hungerFor, f_X12_hungerFor]
  dsimp only [nm]
  rw [e1, e2]
  rcases hc with hc | ⟨rfl, g1, g2, g3, g4⟩
  · have h0 : ¬ tr = 0 := by rcases hc with rfl | rfl <;> decide
    have h1 : ¬ tr ≤ 0 := by rcases hc with rfl | rfl <;> decide
    rw [ref_n h0, if_neg one_ne, if_neg h1]
    exact ⟨some (-1), tr, rfl, rfl⟩
  · obtain ⟨a, ha, rfl⟩ := inN_of g1
    obtain ⟨s, hs, rfl⟩ := inN_of g2
    obtain ⟨f, hf1, hf, rfl⟩ := inF_of g3
    obtain ⟨b, hb, rfl⟩ := inN_of g4
    rw [ref_0, if_pos rfl, qu_n, if_pos (show (0 : Int32) ≤ 0 by decide)]
    obtain ⟨w, e1, e2⟩ := eq_hunger_L h ha hs hf hb (0, (0, x.2)) t FU 0 (by decide) (by decide)
    exact ⟨w, 0, e1, e2⟩
theorem eq_close (h : PQ p q sp de ba as an bi cf ct) (k1 : Int32) (x : TX10_x) (t : TX12_t) : ∃ (r tr : Int32), f_X10_close k1 x p = (r, (tr, x.2)) ∧ f_X12_close k1 t q = (r, (0, tr, -1)) := by
  obtain ⟨-, -, ⟨c1, c2, c3, c4, c5, c6⟩, -⟩ := id h
  have ec : f_X6_isClose k1 p = f_X11_isClose k1 q := by
    unfold f_X6_isClose f_X11_isClose nm f_X10_within
    rw [show p.2.2.1 = nI cf from c1, show q.2.2.1 = nI cf from c2, show p.2.2.2.1 = nI ct from c3, show q.2.2.2.1 = nI ct from c4]
  rw [f_X10_close, f_X12_close]
  dsimp only [nm]
  rw [in_wi]
  have w01 : f_X10_within k1 0 999 = 0 ∨ f_X10_within k1 0 999 = 1 := by
    unfold f_X10_within
    by_cases a1 : k1 < 0
    · rw [if_pos a1]
      exact Or.inl rfl
    · rw [if_neg a1]
      by_cases a2 : (999 : Int32) < k1
      · rw [if_pos a2]
        exact Or.inl rfl
      · rw [if_neg a2]
        exact Or.inr rfl
  rcases w01 with e | e
  · rw [e, nt_0 h, ref_n (show ¬ (2 : Int32) = 0 by decide), if_neg one_ne, if_pos rfl]
    exact ⟨-1, 2, rfl, rfl⟩
  · rw [e, nt_1 h, ref_0, if_pos rfl, if_neg one_ne, ec]
    by_cases c : f_X11_isClose k1 q = 0
    · rw [if_pos c, if_pos c]
      exact ⟨0, 0, rfl, rfl⟩
    · rw [if_neg c, if_neg c]
      exact ⟨1, 0, rfl, rfl⟩
theorem w01 (a b c : Int32) : f_X10_within a b c = 0 ∨ f_X10_within a b c = 1 := by
  unfold f_X10_within
  by_cases a1 : a < b
  · rw [if_pos a1]
    exact Or.inl rfl
  · rw [if_neg a1]
    by_cases a2 : c < a
    · rw [if_pos a2]
      exact Or.inl rfl
    · rw [if_neg a2]
      exact Or.inr rfl
theorem eq_tangles (h : PQ p q sp de ba as an bi cf ct) (k1 k2 k3 k4 : Int32) (x : TX10_x) (t : TX12_t) : ∃ (r tr : Int32), f_X10_tangles k1 k2 k3 k4 x p = some (r, (tr, x.2)) ∧ f_X12_tangles k1 k2 k3 k4 t q = some (r, (0, tr, -1)) := by
  have bad : f_X10_tangles_J54 k1 k2 k3 k4 x p = some (-1, (1, x.2)) := by
    rw [f_X10_tangles_J54, f_X10_tangles_J55, if_pos rfl, f_X10_tangles_J68, nm, ref_n one_ne, if_neg one_ne]
  have badm : f_X12_tangles_J61 t = some (-1, (0, 1, -1)) := rfl
  rw [f_X10_tangles, f_X12_tangles]
  dsimp only [nm]
  by_cases g1 : inN k1 as
  · obtain ⟨e1, e2⟩ := (hasAs h k1).1 g1
    rw [e1, e2, if_neg one_ne, if_neg one_ne]
    by_cases g2 : inN k3 as
    · obtain ⟨e3, e4⟩ := (hasAs h k3).1 g2
      rw [e3, e4, if_neg one_ne, if_neg one_ne]
      by_cases g3 : k1 = k3
      · rw [if_pos g3, if_pos g3, bad, badm]
        exact ⟨-1, 1, rfl, rfl⟩
      · rw [if_neg g3, if_neg g3]
        by_cases g4 : inN k2 sp
        · obtain ⟨e5, e6⟩ := (hasSp h k2).1 g4
          rw [e5, e6, if_neg one_ne, if_neg one_ne]
          by_cases g5 : inN k4 sp
          · obtain ⟨e7, e8⟩ := (hasSp h k4).1 g5
            rw [e7, e8, if_neg one_ne, if_neg one_ne, f_X10_tangles_J55, if_neg one_ne, f_X10_tangles_J68, nm, ref_0, if_pos rfl]
            obtain ⟨⟨a1, a2, a3, a4⟩, -, -, -, ⟨s1, s2, s3⟩, -, -, -, hr, -⟩ := id h
            obtain ⟨i, hi, rfl⟩ := inN_of g1
            obtain ⟨j, hj, rfl⟩ := inN_of g2
            obtain ⟨u, hu, rfl⟩ := inN_of g4
            obtain ⟨v, hv, rfl⟩ := inN_of g5
            obtain ⟨r1, -, -⟩ := hr i hi
            obtain ⟨r2, -, -⟩ := hr j hj
            have eu : (nI u).toInt = (u : Int) := nI_toInt (by omega)
            have ev : (nI v).toInt = (v : Int) := nI_toInt (by omega)
            have ed : (nI u - nI v).toInt = (u : Int) - (v : Int) := by rw [isub_t (by rw [eu, ev]; omega) (by rw [eu, ev]; omega), eu, ev]
            have eab : iabs (nI u - nI v) = f_X12_apart (nI u) (nI v) := by
              apply Int32.toInt_inj.mp
              rw [iabs_t (by rw [ed]; omega) (by rw [ed]; omega), ed, apart_t (by rw [eu]; omega) (by rw [eu]; omega) (by rw [ev]; omega) (by rw [ev]; omega), eu, ev]
            have et : f_X6_isTangle (nI i) (nI u) (nI j) (nI v) p = f_X12_areTangled (nI i) (nI u) (nI j) (nI v) q := by
              simp only [f_X6_isTangle, f_X12_areTangled, nm, gA_in (vin (show i < 5 by omega) (by omega)), gA_in (vin (show j < 5 by omega) (by omega)), nI_clamp (show i < 2 ^ 31 by omega), nI_clamp (show j < 2 ^ 31 by omega), eab, r1, r2]
            rw [et]
            simp only [f_X12_areTangled, nm, gA_in (vin (show i < 5 by omega) (by omega)), gA_in (vin (show j < 5 by omega) (by omega)), nI_clamp (show i < 2 ^ 31 by omega), nI_clamp (show j < 2 ^ 31 by omega)]
            by_cases c : q.2.2.2.2.2.2.2.2.2.2.1 i + q.2.2.2.2.2.2.2.2.2.2.1 j < f_X12_apart (nI u) (nI v)
            · rw [if_pos c, Option.bind_some, Option.bind_some, if_pos rfl, if_pos rfl]
              exact ⟨0, 0, rfl, rfl⟩
            · rw [if_neg c, Option.bind_some, Option.bind_some, if_neg one_ne, if_neg one_ne]
              exact ⟨1, 0, rfl, rfl⟩
          · obtain ⟨e7, e8⟩ := (hasSp h k4).2 g5
            rw [e7, e8, if_pos rfl, if_pos rfl, bad, badm]
            exact ⟨-1, 1, rfl, rfl⟩
        · obtain ⟨e5, e6⟩ := (hasSp h k2).2 g4
          rw [e5, e6, if_pos rfl, if_pos rfl, bad, badm]
          exact ⟨-1, 1, rfl, rfl⟩
    · obtain ⟨e3, e4⟩ := (hasAs h k3).2 g2
      rw [e3, e4, if_pos rfl, if_pos rfl, bad, badm]
      exact ⟨-1, 1, rfl, rfl⟩
  · obtain ⟨e1, e2⟩ := (hasAs h k1).2 g1
    rw [e1, e2, if_pos rfl, if_pos rfl, bad, badm]
    exact ⟨-1, 1, rfl, rfl⟩
theorem gain_eq (k a b : Int32) (ha : 0 ≤ a.toInt) (ha2 : a.toInt ≤ 6) (hb : 0 ≤ b.toInt) (hb2 : b.toInt ≤ 6) : f_X9_gain k a b = f_X12_gets k a b := by
  have e : (a + b).toInt = a.toInt + b.toInt := iadd_t (by omega) (by omega)
  unfold f_X9_gain f_X12_gets f_X12_gets_J15
  by_cases c : a = 0
  · subst c
    rw [if_pos rfl]
    by_cases c2 : (0 : Int32) + b = 0
    · rw [if_pos c2]
      rfl
    · rw [if_neg c2, gZi_ne c2]
      have z : (k * 0) / (0 + b) = (0 : Int32) := by
        rw [Int32.mul_zero, Int32.zero_div]
      rw [z]
  · have c2 : ¬ a + b = 0 := fun z => by
      rw [fa_eq, e, ltv_0] at z
      exact c (by rw [fa_eq, ltv_0]; omega)
    rw [if_neg c2, if_neg c, gZi_ne c2]
theorem wi_b {k : Int32} {a b : Nat} (ha : a ≤ 100000) (hb : b ≤ 100000) (h : f_X10_within k (nI a) (nI b) = 1) : (a : Int) ≤ k.toInt ∧ k.toInt ≤ (b : Int) := by
  by_cases c : (a : Int) ≤ k.toInt ∧ k.toInt ≤ (b : Int)
  · exact c
  · have := (wi_r hb ha).2 c
    rw [h] at this
    exact absurd this one_ne
theorem eq_lines (h : PQ p q sp de ba as an bi cf ct) (k1 k2 k3 k4 : Int32) (x : TX10_x) (t : TX12_t) : ∃ (w : Option Int32) (tr : Int32), f_X10_lines k1 k2 k3 k4 x p = w.map (fun r => (r, (tr, x.2))) ∧ f_X12_lines k1 k2 k3 k4 t = w.map (fun r => (r, (0, tr, -1))) := by
  have bad : f_X10_lines_J34 k1 k2 k3 k4 x p = some (-100, (2, x.2)) := by
    rw [f_X10_lines_J34, f_X10_lines_J35, nm, nt_0 h, nm, ref_n (show ¬ (2 : Int32) = 0 by decide), if_neg one_ne]
  have badm : f_X12_lines_J48 t = some (-100, (0, 2, -1)) := rfl
  rw [f_X10_lines, f_X12_lines]
  dsimp only [nm]
  rw [in_wi, in_wi, in_wi]
  rcases w01 k1 0 99 with e1 | e1
  · rw [e1, if_pos rfl, if_pos rfl, bad, badm]
    exact ⟨some (-100), 2, rfl, rfl⟩
  · rw [e1, if_neg one_ne, if_neg one_ne]
    rcases w01 k2 0 6 with e2 | e2
    · rw [e2, if_pos rfl, if_pos rfl, bad, badm]
      exact ⟨some (-100), 2, rfl, rfl⟩
    · rw [e2, if_neg one_ne, if_neg one_ne]
      rcases w01 k3 0 6 with e3 | e3
      · rw [e3, if_pos rfl, if_pos rfl, bad, badm]
        exact ⟨some (-100), 2, rfl, rfl⟩
      · rw [e3, if_neg one_ne, if_neg one_ne, f_X10_lines_J35, nm, nt_1 h, nm, ref_0, if_pos rfl]
        obtain ⟨a1, a2⟩ := wi_b (a := 0) (b := 6) (by omega) (by omega) e2
        obtain ⟨b1, b2⟩ := wi_b (a := 0) (b := 6) (by omega) (by omega) e3
        by_cases c : k4 = 0
        · rw [if_pos c, if_pos c, gain_eq k1 k2 k3 (by omega) (by omega) (by omega) (by omega)]
          refine ⟨f_X12_gets k1 k2 k3, 0, ?_, ?_⟩ <;> cases f_X12_gets k1 k2 k3 <;> rfl
        · rw [if_neg c, if_neg c, gain_eq k1 k3 k2 (by omega) (by omega) (by omega) (by omega)]
          refine ⟨f_X12_gets k1 k3 k2, 0, ?_, ?_⟩ <;> cases f_X12_gets k1 k3 k2 <;> rfl
end WISHES
