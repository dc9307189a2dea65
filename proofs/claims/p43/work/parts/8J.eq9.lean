/-! a day: the same on both sides -/
section DAY
variable {p : TX6_p} {q : TX11_q} {sp de ba as an bi cf ct t : Nat} {n : TX4_n} {v : Nat → Int32}
theorem ix_ba {s f b de ba : Nat} (hb : b < ba) : ((s * de + f - 1) * ba + b) / ba = s * de + f - 1 := by
  rw [Nat.add_comm, Nat.add_mul_div_right _ _ (by omega), Nat.div_eq_of_lt hb, Nat.zero_add]
theorem ix_bm {s f b de ba : Nat} (hb : b < ba) : ((s * de + f - 1) * ba + b) % ba = b := by
  rw [Nat.add_comm, Nat.add_mul_mod_self_right, Nat.mod_eq_of_lt hb]
theorem ix_sp {s f de : Nat} (h1 : 1 ≤ f) (h2 : f ≤ de) : (s * de + f - 1) / de = s := by
  rw [show s * de + f - 1 = (f - 1) + s * de by omega, Nat.add_mul_div_right _ _ (by omega), Nat.div_eq_of_lt (by omega), Nat.zero_add]
theorem ix_fa {s f de : Nat} (h1 : 1 ≤ f) (h2 : f ≤ de) : (s * de + f - 1) % de = f - 1 := by
  rw [show s * de + f - 1 = (f - 1) + s * de by omega, Nat.add_mul_mod_self_right, Nat.mod_eq_of_lt (by omega)]
theorem nI_n0 {a : Nat} (h : a < 2 ^ 31) (h1 : 1 ≤ a) : ¬ nI a = 0 := fun z => by
  have := congrArg Int32.toInt z
  rw [nI_toInt h, ltv_0] at this
  omega
theorem mspo (hq : PQ p q sp de ba as an bi cf ct) {s f b : Nat} (hs : s < sp) (h1 : 1 ≤ f) (h2 : f ≤ de) (hb : b < ba) : f_X12_spotOf (nI ((s * de + f - 1) * ba + b)) q = some (nI s) := by
  obtain ⟨⟨-, -, -, s4⟩, ⟨-, d2, -, d4⟩, -, ⟨-, b2, -, b4⟩, -⟩ := id hq
  have hc := cd_b hs h2 hb s4 d4 b4
  have hc2 : s * de + f - 1 ≤ (s * de + f - 1) * ba + b := by
    have := Nat.mul_le_mul_left (s * de + f - 1) (show 1 ≤ ba by omega)
    omega
  unfold f_X12_spotOf
  rw [show q.2.2.2.2.1 = nI ba from b2, show q.2.1 = nI de from d2, gZi_ne (nI_n0 (by omega) (by omega)), gZi_ne (nI_n0 (by omega) (by omega)), pk_div (by omega) (by omega) (by omega), ix_ba hb, pk_div (by omega) (by omega) (by omega), ix_sp h1 h2]
theorem mfao (hq : PQ p q sp de ba as an bi cf ct) {s f b : Nat} (hs : s < sp) (h1 : 1 ≤ f) (h2 : f ≤ de) (hb : b < ba) : f_X12_fathomsOf (nI ((s * de + f - 1) * ba + b)) q = some (nI f) := by
  obtain ⟨⟨-, -, -, s4⟩, ⟨-, d2, -, d4⟩, -, ⟨-, b2, -, b4⟩, -⟩ := id hq
  have hc := cd_b hs h2 hb s4 d4 b4
  have hc2 : s * de + f - 1 ≤ (s * de + f - 1) * ba + b := by
    have := Nat.mul_le_mul_left (s * de + f - 1) (show 1 ≤ ba by omega)
    omega
  unfold f_X12_fathomsOf
  dsimp only [nm]
  rw [show q.2.2.2.2.1 = nI ba from b2, show q.2.1 = nI de from d2, gZi_ne (nI_n0 (by omega) (by omega)), gZi_ne (nI_n0 (by omega) (by omega)), pk_div (by omega) (by omega) (by omega), ix_ba hb, pk_rem (by omega) (by omega) (by omega), ix_fa h1 h2, nI_1, show f - 1 + 1 = f by omega]
theorem mbao (hq : PQ p q sp de ba as an bi cf ct) {s f b : Nat} (hs : s < sp) (h1 : 1 ≤ f) (h2 : f ≤ de) (hb : b < ba) : f_X12_baitOf (nI ((s * de + f - 1) * ba + b)) q = some (nI b) := by
  obtain ⟨⟨-, -, -, s4⟩, ⟨-, d2, -, d4⟩, -, ⟨-, b2, -, b4⟩, -⟩ := id hq
  have hc := cd_b hs h2 hb s4 d4 b4
  unfold f_X12_baitOf
  rw [show q.2.2.2.2.1 = nI ba from b2, gZi_ne (nI_n0 (by omega) (by omega)), pk_rem (by omega) (by omega) (by omega), ix_bm hb]
theorem mwo (hq : PQ p q sp de ba as an bi cf ct) {a s f b : Nat} (hs : s < sp) (h1 : 1 ≤ f) (h2 : f ≤ de) (hb : b < ba) : f_X12_wishOf (nI a) (nI ((s * de + f - 1) * ba + b)) q = f_X11_wish (nI a) (nI s) (nI f) (nI b) q := by
  unfold f_X12_wishOf
  rw [mspo hq hs h1 h2 hb, mfao hq hs h1 h2 hb, mbao hq hs h1 h2 hb, Option.bind_some, Option.bind_some, Option.bind_some]
  cases f_X11_wish (nI a) (nI s) (nI f) (nI b) q <;> rfl
/-- both tell one number of a wish for a question -/
theorem wish_o (hq : PQ p q sp de ba as an bi cf ct) {a s f b : Nat} (ha : a < an) (hs : s < sp) (h1 : 1 ≤ f) (h2 : f ≤ de) (hb : b < ba) : ∃ r : Nat, r ≤ 100 ∧ f_X6_wishFor (nI a) (nI (100 * s + 10 * f + b)) p = some (nI r) ∧ f_X12_wishOf (nI a) (nI ((s * de + f - 1) * ba + b)) q = some (nI r) := by
  obtain ⟨r, e1, e2, e3⟩ := wish_for hq ha hs h2 hb
  have hr : 0 ≤ r.toInt ∧ r.toInt ≤ 100 := by
    rw [e3]
    unfold wI cI
    constructor <;> (split <;> (try split) <;> omega)
  obtain ⟨z, hz, rfl⟩ := inn_of hr.1
  have := hr.2
  rw [nI_toInt hz] at this
  exact ⟨z, by omega, e1, by rw [mwo hq hs h1 h2 hb]; exact e2⟩
/-! lines that tangle -/
def bI (b : Bool) : Int32 := if b then 1 else 0
def tg (q : TX11_q) (i u j w : Nat) : Bool := !decide (q.2.2.2.2.2.2.2.2.2.2.1 i + q.2.2.2.2.2.2.2.2.2.2.1 j < f_X12_apart (nI u) (nI w))
theorem apt_s {u w : Nat} (hu : u < 8) (hw : w < 8) : f_X12_apart (nI u) (nI w) = f_X12_apart (nI w) (nI u) := by
  have eu : (nI u).toInt = (u : Int) := nI_toInt (by omega)
  have ew : (nI w).toInt = (w : Int) := nI_toInt (by omega)
  apply Int32.toInt_inj.mp
  rw [apart_t (by rw [eu]; omega) (by rw [eu]; omega) (by rw [ew]; omega) (by rw [ew]; omega), apart_t (by rw [ew]; omega) (by rw [ew]; omega) (by rw [eu]; omega) (by rw [eu]; omega), eu, ew]
  exact aI_neg _ _
theorem tg_s {i u j w : Nat} (hu : u < 8) (hw : w < 8) : tg q i u j w = tg q j w i u := by
  unfold tg
  rw [apt_s hu hw, Int32.add_comm]
theorem tgm (hq : PQ p q sp de ba as an bi cf ct) {i u j w : Nat} (hi : i < as) (hj : j < as) : f_X12_areTangled (nI i) (nI u) (nI j) (nI w) q = some (bI (tg q i u j w)) := by
  obtain ⟨-, -, -, -, ⟨-, -, s3⟩, -⟩ := id hq
  unfold f_X12_areTangled
  dsimp only [nm]
  rw [gA_in (vin (show i < 5 by omega) (by omega)), gA_in (vin (show j < 5 by omega) (by omega)), nI_clamp (show i < 2 ^ 31 by omega), nI_clamp (show j < 2 ^ 31 by omega)]
  unfold tg bI
  by_cases c : q.2.2.2.2.2.2.2.2.2.2.1 i + q.2.2.2.2.2.2.2.2.2.2.1 j < f_X12_apart (nI u) (nI w)
  · rw [if_pos c, decide_eq_true c]
    rfl
  · rw [if_neg c, decide_eq_false c]
    rfl
theorem tgx (hq : PQ p q sp de ba as an bi cf ct) {i u j w : Nat} (hi : i < as) (hj : j < as) (hu : u < sp) (hw : w < sp) : f_X6_isTangle (nI i) (nI u) (nI j) (nI w) p = some (bI (tg q i u j w)) := by
  rw [← tgm hq hi hj]
  obtain ⟨⟨-, -, -, s4⟩, -, -, -, ⟨-, -, s3⟩, -, -, -, hr, -⟩ := id hq
  obtain ⟨r1, -, -⟩ := hr i hi
  obtain ⟨r2, -, -⟩ := hr j hj
  have eu : (nI u).toInt = (u : Int) := nI_toInt (by omega)
  have ev : (nI w).toInt = (w : Int) := nI_toInt (by omega)
  have ed : (nI u - nI w).toInt = (u : Int) - (w : Int) := by rw [isub_t (by rw [eu, ev]; omega) (by rw [eu, ev]; omega), eu, ev]
  have eab : iabs (nI u - nI w) = f_X12_apart (nI u) (nI w) := by
    apply Int32.toInt_inj.mp
    rw [iabs_t (by rw [ed]; omega) (by rw [ed]; omega), ed, apart_t (by rw [eu]; omega) (by rw [eu]; omega) (by rw [ev]; omega) (by rw [ev]; omega), eu, ev]
  simp only [f_X6_isTangle, f_X12_areTangled, nm, gA_in (vin (show i < 5 by omega) (by omega)), gA_in (vin (show j < 5 by omega) (by omega)), nI_clamp (show i < 2 ^ 31 by omega), nI_clamp (show j < 2 ^ 31 by omega), eab, r1, r2]
end DAY
