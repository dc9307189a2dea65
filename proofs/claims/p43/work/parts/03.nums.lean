theorem iadd_t {x y : Int32} (h1 : -2147483648 ≤ x.toInt + y.toInt) (h2 : x.toInt + y.toInt ≤ 2147483647) : (x + y).toInt = x.toInt + y.toInt := by
  rw [Int32.toInt_add]
  exact Int.bmod_eq_of_le (by omega) (by omega)
theorem isub_t {x y : Int32} (h1 : -2147483648 ≤ x.toInt - y.toInt) (h2 : x.toInt - y.toInt ≤ 2147483647) : (x - y).toInt = x.toInt - y.toInt := by
  rw [Int32.toInt_sub]
  exact Int.bmod_eq_of_le (by omega) (by omega)
theorem imul_t {x y : Int32} (h1 : -2147483648 ≤ x.toInt * y.toInt) (h2 : x.toInt * y.toInt ≤ 2147483647) : (x * y).toInt = x.toInt * y.toInt := by
  rw [Int32.toInt_mul]
  exact Int.bmod_eq_of_le (by omega) (by omega)
theorem inn_of {x : Int32} (h : 0 ≤ x.toInt) : ∃ j : Nat, j < 2 ^ 31 ∧ x = nI j := nI_of (by rw [fa_lt, ltv_0]; omega)
theorem irem_t {x y : Int32} (hx : 0 ≤ x.toInt) (hy : 0 < y.toInt) : (x - x / y * y).toInt = x.toInt % y.toInt := by
  obtain ⟨a, ha, rfl⟩ := inn_of hx
  obtain ⟨d, hd, rfl⟩ := inn_of (Int.le_of_lt hy)
  rw [nI_toInt hd] at hy
  have h0 : 0 < d := by omega
  rw [pk_rem ha h0 hd, nI_toInt (Nat.lt_of_le_of_lt (Nat.mod_le _ _) ha), nI_toInt ha, nI_toInt hd]
  first | rfl | simp
theorem idiv_t {x y : Int32} (hx : 0 ≤ x.toInt) (hy : 0 < y.toInt) : (x / y).toInt = x.toInt / y.toInt := by
  obtain ⟨a, ha, rfl⟩ := inn_of hx
  obtain ⟨d, hd, rfl⟩ := inn_of (Int.le_of_lt hy)
  rw [nI_toInt hd] at hy
  have h0 : 0 < d := by omega
  rw [pk_div ha h0 hd, nI_toInt (Nat.lt_of_le_of_lt (Nat.div_le_self _ _) ha), nI_toInt ha, nI_toInt hd]
  first | rfl | simp
theorem ishl1_f : ∀ j : Nat, j ≤ 8 → ((1 : Int32) <<< (nI j &&& 31)).toInt = ((2 ^ j : Nat) : Int) := by decide
theorem ishl1_t (c d p q : Nat) (hp : 2 ^ c = p) (hq : 2 ^ d = q) (hd : d ≤ 8) {k : Int32} (h1 : (c : Int) ≤ k.toInt) (h2 : k.toInt ≤ (d : Int)) : (p : Int) ≤ ((1 : Int32) <<< (k &&& 31)).toInt ∧ ((1 : Int32) <<< (k &&& 31)).toInt ≤ (q : Int) := by
  obtain ⟨j, hj, rfl⟩ := inn_of (x := k) (by omega)
  rw [nI_toInt hj] at h1 h2
  rw [ishl1_f j (by omega), ← hp, ← hq]
  exact ⟨Int.ofNat_le.mpr (Nat.pow_le_pow_right (by decide) (by omega)), Int.ofNat_le.mpr (Nat.pow_le_pow_right (by decide) (by omega))⟩
theorem ior_t (n q : Nat) (hq : 2 ^ n = q + 1) (hn : n ≤ 8) {x y : Int32} (hx : 0 ≤ x.toInt ∧ x.toInt ≤ (q : Int)) (hy : 0 ≤ y.toInt ∧ y.toInt ≤ (q : Int)) : 0 ≤ (x ||| y).toInt ∧ (x ||| y).toInt ≤ (q : Int) := by
  obtain ⟨a, ha, rfl⟩ := inn_of hx.1
  obtain ⟨b, hb, rfl⟩ := inn_of hy.1
  rw [nI_toInt ha] at hx
  rw [nI_toInt hb] at hy
  have h : a ||| b < 2 ^ n := Nat.or_lt_two_pow (by omega) (by omega)
  have h2 : 2 ^ n ≤ 2 ^ 8 := Nat.pow_le_pow_right (by decide) hn
  rw [fa_or, nI_toInt (by omega)]
  omega
theorem lg_ne {x : Int64} {z : Int32} (e : z = lg_cmp x 0) (c : ¬ z = 0) : ¬ x = 0 := by
  intro h
  apply c
  rw [e, h]
  decide
theorem narz {v : Int32} (h : 0 ≤ v.toInt ∧ v.toInt ≤ 1) : narrow .boolean (.int v) = .int v := by
  rcases (show v = 0 ∨ v = 1 by rw [fa_eq, fa_eq, ltv_0, ltv_1]; omega) with rfl | rfl <;> rfl
