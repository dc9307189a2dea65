/-! longs -/
def nL (n : Nat) : Int64 := Int64.ofNat n
theorem nL_add (a b : Nat) : nL a + nL b = nL (a + b) := (Int64.ofNat_add a b).symm
theorem nL_mul (a b : Nat) : nL a * nL b = nL (a * b) := (Int64.ofNat_mul a b).symm
theorem nL_sub {a b : Nat} (h : b ≤ a) : nL a - nL b = nL (a - b) := by
  obtain ⟨c, rfl⟩ : ∃ c, a = c + b := ⟨a - b, by omega⟩
  rw [← nL_add, Int64.add_sub_cancel, Nat.add_sub_cancel]
theorem nL_toInt {n : Nat} (h : n < 2 ^ 63) : (nL n).toInt = (n : Int) := by
  unfold nL
  first
    | exact Int64.toInt_ofNat_of_lt h
    | (rw [Int64.toInt_ofNat]; exact Int.bmod_eq_of_le (by omega) (by omega))
theorem nL_div {a d : Nat} (ha : a < 2 ^ 63) (hd : d < 2 ^ 63) : nL a / nL d = nL (a / d) := by
  have h3 : a / d ≤ a := Nat.div_le_self a d
  apply Int64.toInt_inj.mp
  rw [Int64.toInt_div, nL_toInt ha, nL_toInt hd, nL_toInt (by omega), ← Int.ofNat_tdiv]
  generalize a / d = e at h3 ⊢
  exact Int.bmod_eq_of_le (by omega) (by omega)
theorem nL_rem {a d : Nat} (ha : a < 2 ^ 63) (hd : d < 2 ^ 63) : nL a - nL a / nL d * nL d = nL (a % d) := by
  rw [nL_div ha hd, nL_mul, nL_sub (Nat.div_mul_le_self a d)]
  exact congrArg nL (by have := Nat.div_add_mod' a d; omega)
theorem nL_of32 {a : Nat} (h : a < 2 ^ 31) : (nI a).toInt64 = nL a := by
  apply Int64.toInt_inj.mp
  rw [Int32.toInt_toInt64, nI_toInt h, nL_toInt (by omega)]
theorem nL_to32 {a : Nat} : (nL a).toInt32 = nI a := by
  unfold nL nI
  first
    | exact Int64.toInt32_ofNat
    | exact Int64.toInt32_ofNat'
    | simp
theorem nL_inj {a b : Nat} (ha : a < 2 ^ 63) (hb : b < 2 ^ 63) : nL a = nL b ↔ a = b := by
  constructor
  · intro h
    have := congrArg Int64.toInt h
    rw [nL_toInt ha, nL_toInt hb] at this
    omega
  · intro h
    rw [h]
theorem nL_lt {a b : Nat} (ha : a < 2 ^ 63) (hb : b < 2 ^ 63) : nL a < nL b ↔ a < b := by
  rw [Int64.lt_iff_toInt_lt, nL_toInt ha, nL_toInt hb]
  omega
theorem nL_le {a b : Nat} (ha : a < 2 ^ 63) (hb : b < 2 ^ 63) : nL a ≤ nL b ↔ a ≤ b := by
  rw [Int64.le_iff_toInt_le, nL_toInt ha, nL_toInt hb]
  omega
/-- a draw: the class's in ints, the reference's in longs -/
theorem draw_i {sd : Nat} (h : sd ≤ 65536) : ((75 : Int32) * nI sd + 74) - ((75 : Int32) * nI sd + 74) / (65537 : Int32) * (65537 : Int32) = nI ((75 * sd + 74) % 65537) := by
  rw [show (75 : Int32) * nI sd = nI (75 * sd) from nI_mul 75 sd, show nI (75 * sd) + (74 : Int32) = nI (75 * sd + 74) from nI_add _ 74, show (65537 : Int32) = nI 65537 from rfl, pk_rem (by omega) (by omega) (by omega)]
theorem draw_l {sd : Nat} (h : sd ≤ 65536) : (((75 : Int64) * (nI sd).toInt64 + 74) - ((75 : Int64) * (nI sd).toInt64 + 74) / (65537 : Int64) * (65537 : Int64)).toInt32 = nI ((75 * sd + 74) % 65537) := by
  rw [nL_of32 (by omega), show (75 : Int64) * nL sd = nL (75 * sd) from nL_mul 75 sd, show nL (75 * sd) + (74 : Int64) = nL (75 * sd + 74) from nL_add _ 74, show (65537 : Int64) = nL 65537 from rfl, nL_rem (by omega) (by omega), nL_to32]
theorem hund_i {z : Nat} (h : z < 65537) : nI z - nI z / (100 : Int32) * (100 : Int32) = nI (z % 100) := by
  rw [show (100 : Int32) = nI 100 from rfl, pk_rem (by omega) (by omega) (by omega)]
