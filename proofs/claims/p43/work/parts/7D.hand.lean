/-! what intervals don't give: the common divisor, and that the whole isn't nothing -/
theorem tp_be {α β : Type} {Q : β → Prop} {x : Option α} {P : α → Prop} {k : α → Option β} (h : TotP x P) (t : ∀ r, x = some r → P r → TotP (k r) Q) : TotP (x.bind k) Q := by
  obtain ⟨r, a, b⟩ := h
  rw [a, Option.bind_some]
  exact t r a b
theorem irem64 {x y : Int64} : x - x / y * y = x % y := by
  apply Int64.toInt_inj.mp
  have h1 := Int64.le_toInt (x % y)
  have h2 := Int64.toInt_lt (x % y)
  rw [Int64.toInt_sub, Int64.toInt_mul, Int64.toInt_div, Int.bmod_mul_bmod, Int.sub_bmod_bmod, Int.mul_comm (x.toInt.tdiv y.toInt), ← Int.tmod_def, ← Int64.toInt_mod]
  exact Int.bmod_eq_of_le_mul_two (by omega) (by omega)
theorem z64 {x : Int64} (h : ¬ x = 0) : ¬ x.toInt = 0 := by
  intro c
  exact h (Int64.toInt_inj.mp (by rw [c]; rfl))
theorem z64' {x : Int64} (h : x.toInt = 0) : x = 0 := Int64.toInt_inj.mp (by rw [h]; rfl)
theorem lg_nz {x : Int64} (c : ¬ x = 0) : ¬ lg_cmp x 0 = 0 := by
  unfold lg_cmp
  intro h
  repeat' split at h
  all_goals first | exact c (by assumption) | exact absurd h (by decide) | skip
theorem lg0 {x : Int64} : (lg_cmp x 0 = 0) ↔ x = 0 := by
  constructor
  · intro h
    by_cases c : x = 0
    · exact c
    · exact (lg_nz c h).elim
  · intro h
    subst h
    decide
theorem tmod_abs {a b : Int} (h : ¬ b = 0) : (a.tmod b).natAbs < b.natAbs := by
  rw [Int.natAbs_tmod]
  exact Nat.mod_lt _ (by omega)
theorem mod_half {a b : Nat} (h : 0 < b) (hb : b < a) : 2 * (a % b) < a := by
  have e := Nat.div_add_mod a b
  have l := Nat.mod_lt a h
  have d : 1 ≤ a / b := Nat.div_pos (by omega) h
  have m : b ≤ b * (a / b) := Nat.le_mul_of_pos_right b d
  omega
/-- two steps halve the divisor -/
theorem common_L : ∀ (k n : Nat) (b a : Int64), b.toInt.natAbs < 2 ^ k → 2 * k < n → ∃ r, f_X12_common_L6 n b a = some r ∧ (¬ (b = 0 ∧ a = 0) → ¬ r = 0) := by
  intro k
  induction k with
  | zero =>
    intro n b a hb hn
    obtain ⟨n, rfl⟩ : ∃ j, n = j + 1 := ⟨n - 1, by omega⟩
    have e : b = 0 := z64' (by omega)
    refine ⟨a, ?_, fun h c => h ⟨e, c⟩⟩
    rw [f_X12_common_L6, if_pos (lg0.mpr e)]
  | succ k ih =>
    intro n b a hb hn
    obtain ⟨n, rfl⟩ : ∃ j, n = j + 2 := ⟨n - 2, by omega⟩
    by_cases e : b = 0
    · refine ⟨a, ?_, fun h c => h ⟨e, c⟩⟩
      rw [f_X12_common_L6, if_pos (lg0.mpr e)]
    · rw [f_X12_common_L6, if_neg (fun c => e (lg0.mp c)), gZl_ne e, irem64]
      by_cases e2 : a % b = 0
      · refine ⟨b, ?_, fun _ => e⟩
        rw [f_X12_common_L6, if_pos (lg0.mpr e2)]
      · rw [f_X12_common_L6, if_neg (fun c => e2 (lg0.mp c)), gZl_ne e2, irem64]
        have h1 : (a % b).toInt.natAbs < b.toInt.natAbs := by
          rw [Int64.toInt_mod]
          exact tmod_abs (z64 e)
        have h2 : 0 < (a % b).toInt.natAbs := by
          have := z64 e2
          omega
        have h3 : 2 * (b % (a % b)).toInt.natAbs < b.toInt.natAbs := by
          rw [Int64.toInt_mod, Int.natAbs_tmod]
          exact mod_half h2 h1
        obtain ⟨r, hr, hz⟩ := ih n (b % (a % b)) (a % b) (by rw [Nat.pow_succ] at hb; omega) (by omega)
        exact ⟨r, hr, fun _ => hz (fun c => e2 c.2)⟩
theorem common_all {k0 k1 : Int64} : ∃ r, f_X12_common k0 k1 = some r ∧ (¬ (k1 = 0 ∧ k0 = 0) → ¬ r = 0) := by
  rw [f_X12_common]
  refine common_L 64 FU k1 k0 ?_ (by unfold FU; omega)
  have a := k1.toInt_lt
  have b := k1.le_toInt
  omega
theorem t_f_X12_common {k0 k1 : Int64} : TotP (f_X12_common k0 k1) (fun (r : Int64) => True) := by
  obtain ⟨r, h, _⟩ := common_all (k0 := k0) (k1 := k1)
  exact ⟨r, h, trivial⟩
theorem common_ne0 {k0 k1 r : Int64} (h : ¬ k1 = 0) (e : f_X12_common k0 k1 = some r) : ¬ r = 0 := by
  obtain ⟨q, hq, hz⟩ := common_all (k0 := k0) (k1 := k1)
  rw [e] at hq
  cases hq
  exact hz (fun c => h c.1)
theorem p100 : ∀ j : Nat, j ≤ 6 → ¬ (Int64.ofNat (100 ^ j)) = 0 := by decide
theorem p100s : ∀ j : Nat, j ≤ 5 → (Int64.ofNat (100 ^ j)) * 100 = Int64.ofNat (100 ^ (j + 1)) := by decide
theorem whole_L {m_v : TX12_v} {q_q : TX11_q} (hq : R32 0 6 q_q.2.2.2.2.2.2.1) : ∀ (n : Nat) (i : Int32) (w r : Int64) (j : Nat), 0 ≤ i.toInt → i.toInt ≤ 6 → (j : Int) ≤ i.toInt → w = Int64.ofNat (100 ^ j) → f_X12_whole_L4 m_v q_q n i w = some r → ¬ r = 0 := by
  obtain ⟨q1, q2⟩ := hq
  intro n
  induction n with
  | zero => intro i w r j _ _ _ _ h; rw [f_X12_whole_L4] at h; cases h
  | succ n ih =>
    intro i w r j h0 h6 hj hw h
    rw [f_X12_whole_L4] at h
    by_cases c : q_q.2.2.2.2.2.2.1 ≤ i
    · rw [if_pos c] at h
      cases h
      rw [hw]
      exact p100 j (by omega)
    · rw [if_neg c] at h
      rw [fa_le] at c
      obtain ⟨_, h⟩ := gA_of h
      have e1 := iadd_t (x := i) (y := 1) (by rw [ltv_1]; omega) (by rw [ltv_1]; omega)
      rw [ltv_1] at e1
      by_cases d : m_v (((0 : Int32) + i)).toNatClampNeg = 0
      · rw [if_pos d, f_X12_whole_J34] at h
        exact ih (i + 1) _ r (j + 1) (by omega) (by omega) (by omega) (by rw [hw]; exact p100s j (by omega)) h
      · rw [if_neg d, f_X12_whole_J34] at h
        exact ih (i + 1) _ r j (by omega) (by omega) (by omega) (by rw [hw, Int64.mul_one]) h
theorem whole_ne0 {m_v : TX12_v} {q_q : TX11_q} {r : Int64} (hq : R32 0 6 q_q.2.2.2.2.2.2.1) (h : f_X12_whole m_v q_q = some r) : ¬ r = 0 := by
  rw [f_X12_whole] at h
  exact whole_L hq FU 0 1 r 0 (by decide) (by decide) (by decide) (by decide) h
theorem r_shl (c d : Nat) {l h l1 h1 : Int} {k : Int32} (a : R32 l1 h1 k) (e1 : (c : Int) = l1 ∧ h1 = (d : Int)) (hd : d ≤ 8) (e2 : l = ((2 ^ c : Nat) : Int) ∧ h = ((2 ^ d : Nat) : Int)) : R32 l h ((1 : Int32) <<< (k &&& 31)) := by
  obtain ⟨a1, a2⟩ := a
  have q := ishl1_t c d (2 ^ c) (2 ^ d) rfl rfl hd (k := k) (by omega) (by omega)
  rw [e2.1, e2.2]
  exact q
theorem r_or (n q : Nat) {l1 h1 l2 h2 : Int} {x y : Int32} (a : R32 l1 h1 x) (b : R32 l2 h2 y) (hq : 2 ^ n = q + 1) (hn : n ≤ 8) (e0 : 0 ≤ l1 ∧ 0 ≤ l2) (e1 : h1 ≤ (q : Int)) (e2 : h2 ≤ (q : Int)) : R32 0 (q : Int) (x ||| y) :=
  ior_t n q hq hn ⟨Int.le_trans e0.1 a.1, Int.le_trans a.2 e1⟩ ⟨Int.le_trans e0.2 b.1, Int.le_trans b.2 e2⟩
theorem fa_and (a b : Nat) : nI a &&& nI b = nI (a &&& b) := by
  apply Int32.toBitVec_inj.1
  show BitVec.ofNat 32 a &&& BitVec.ofNat 32 b = BitVec.ofNat 32 (a &&& b)
  apply BitVec.eq_of_getLsbD_eq
  intro i hi
  simp [hi]
theorem iand_t {x y : Int32} (hx : 0 ≤ x.toInt) (hy : 0 ≤ y.toInt) : 0 ≤ (x &&& y).toInt ∧ (x &&& y).toInt ≤ y.toInt := by
  obtain ⟨a, ha, rfl⟩ := inn_of hx
  obtain ⟨b, hb, rfl⟩ := inn_of hy
  have h : a &&& b ≤ b := Nat.and_le_right
  rw [fa_and, nI_toInt (by omega), nI_toInt hb]
  omega
theorem bits_L : ∀ (n : Nat) (x c : Int32), 0 ≤ x.toInt → x.toInt < n → TotP (f_X12_bits_L4 n x c) (fun (r : Int32) => True) := by
  intro n
  induction n with
  | zero => intro x c h0 h1; omega
  | succ n ih =>
    intro x c h0 h1
    rw [f_X12_bits_L4]
    refine tp_if (fun _ => tp_s trivial) (fun d => ?_)
    rw [fa_eq, ltv_0] at d
    have u := (r_top x).2
    have e := isub_t (x := x) (y := 1) (by rw [ltv_1]; omega) (by rw [ltv_1]; omega)
    rw [ltv_1] at e
    have q := iand_t (x := x) (y := x - 1) h0 (by omega)
    exact ih _ _ q.1 (by omega)
theorem t_f_X12_bits {k0 : Int32} (h_k0 : R32 (0) (63) k0) : TotP (f_X12_bits k0) (fun (r : Int32) => True) := by
  unfold f_X12_bits
  obtain ⟨a, b⟩ := h_k0
  exact bits_L FU k0 0 a (by unfold FU; omega)
