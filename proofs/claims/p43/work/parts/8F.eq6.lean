/-! what stands now, on both sides -/
theorem nI_sub1 {a : Nat} (h : 1 ≤ a) (h2 : a < 2 ^ 31) : nI a - 1 = nI (a - 1) := by
  apply Int32.toInt_inj.mp
  rw [isub_t (by rw [nI_toInt h2, ltv_1]; omega) (by rw [nI_toInt h2, ltv_1]; omega), nI_toInt h2, ltv_1, nI_toInt (by omega)]
  omega
theorem i18 (k : Nat) : (18 : Int32) + nI k = nI (18 + k) := nI_add 18 k
theorem i12 (k : Nat) : (12 : Int32) + nI k = nI (12 + k) := nI_add 12 k
theorem i6 (k : Nat) : (6 : Int32) + nI k = nI (6 + k) := nI_add 6 k
theorem i0 (k : Nat) : (0 : Int32) + nI k = nI k := by
  rw [show (0 : Int32) = nI 0 from rfl, nI_add, Nat.zero_add]
theorem c23 : (23 : Int32).toNatClampNeg = 23 := by decide
theorem c24 : (24 : Int32).toNatClampNeg = 24 := by decide
theorem c25 : (25 : Int32).toNatClampNeg = 25 := by decide
theorem nI_neg {a : Nat} (h : a < 2 ^ 31) {x : Int32} (hx : x.toInt < 0) : ¬ nI a = x := fun z => by
  rw [← z, nI_toInt h] at hx
  omega
theorem nI_m2 {a : Nat} (h : a < 2 ^ 31) : ¬ nI a = -2 := nI_neg h (by decide)
/-- a line: none is out, or the same question on both sides -/
def NL (sp de ba : Nat) (x y : Int32) : Prop := (x = -1 ∧ y = -2) ∨ ∃ s f b : Nat, s < sp ∧ 1 ≤ f ∧ f ≤ de ∧ b < ba ∧ x = nI (100 * s + 10 * f + b) ∧ y = nI ((s * de + f - 1) * ba + b)
/-- an answer: there, or landed on a day by an asker -/
def NS (t : Nat) (n : TX4_n) (v : Nat → Int32) (a : Nat) : Prop := (n.2.2.2.1 a = 0 ∧ v a = 0 ∧ v (6 + a) = -2 ∧ v (12 + a) = -2) ∨ ((v a = 1 ∨ v a = 2) ∧ n.2.2.2.1 a = v a ∧ ∃ d k : Nat, d ≤ t ∧ k < 5 ∧ n.2.2.2.2.1 a = nI d ∧ v (6 + a) = nI d ∧ n.2.2.2.2.2.1 a = nI k ∧ v (12 + a) = nI k)
def NV (sp de ba t : Nat) (n : TX4_n) (v : Nat → Int32) : Prop := ∃ sd : Nat, sd ≤ 65536 ∧ n.1 = nI t ∧ v 23 = nI t ∧ n.2.1 = nI sd ∧ v 24 = nI sd ∧ n.2.2.1 = v 25 ∧ (∀ a, a < 6 → NS t n v a) ∧ (∀ k, k < 5 → NL sp de ba (n.2.2.2.2.2.2 k) (v (18 + k)))
theorem nv_cg {sp de ba t : Nat} {n n' : TX4_n} {v v' : Nat → Int32} (h : NV sp de ba t n v) (h1 : n'.1 = n.1) (h2 : n'.2.1 = n.2.1) (h3 : n'.2.2.1 = n.2.2.1) (h4 : ∀ a, a < 6 → n'.2.2.2.1 a = n.2.2.2.1 a ∧ n'.2.2.2.2.1 a = n.2.2.2.2.1 a ∧ n'.2.2.2.2.2.1 a = n.2.2.2.2.2.1 a) (h5 : ∀ k, k < 5 → n'.2.2.2.2.2.2 k = n.2.2.2.2.2.2 k) (hv : ∀ j, j < 26 → v' j = v j) : NV sp de ba t n' v' := by
  obtain ⟨sd, b1, e1, e2, e3, e4, e5, hs, hl⟩ := h
  refine ⟨sd, b1, h1.trans e1, (hv 23 (by omega)).trans e2, h2.trans e3, (hv 24 (by omega)).trans e4, h3.trans (e5.trans (hv 25 (by omega)).symm), fun a ha => ?_, fun k hk => ?_⟩
  · have := hs a ha
    unfold NS at this ⊢
    rw [(h4 a ha).1, (h4 a ha).2.1, (h4 a ha).2.2, hv a (by omega), hv (6 + a) (by omega), hv (12 + a) (by omega)]
    exact this
  · rw [h5 k hk, hv (18 + k) (by omega)]
    exact hl k hk
theorem cpy_at {f g : Nat → Int32} {m a : Nat} {z : Int32} (hz : z.toNatClampNeg = m) (h : a < m) : va_cpy f g (0 : Int32).toNatClampNeg (0 : Int32).toNatClampNeg z.toNatClampNeg a = f a := by
  rw [hz, show (0 : Int32).toNatClampNeg = 0 by decide]
  unfold va_cpy
  rw [if_pos ⟨Nat.zero_le a, by omega⟩]
  exact congrArg f (by omega)
theorem c6 : (6 : Int32).toNatClampNeg = 6 := by decide
theorem c5 : (5 : Int32).toNatClampNeg = 5 := by decide
/-- a row that becomes another one -/
theorem nv_bec {sp de ba t : Nat} {n n2 : TX4_n} {v : Nat → Int32} (h : NV sp de ba t n2 v) : NV sp de ba t (f_X4_become n n2) v := nv_cg h rfl rfl rfl (fun _ ha => ⟨cpy_at c6 ha, cpy_at c6 ha, cpy_at c6 ha⟩) (fun _ hk => cpy_at c5 hk) (fun _ _ => rfl)
/-! the reference keeps a row -/
theorem rem_L51 {v : Nat → Int32} {c : Nat} (hc : c ≤ 15) : ∀ (m i n : Nat) (h : TX12_h), h.2.2.1 = nI c → i + m = 26 → m < n → ∃ P : Nat → Int32, f_X12_remembers_L51 v n (nI i) h = some (P, h.2.1, nI (c + 1), h.2.2.2) ∧ ∀ j, P j = if 26 * c + i ≤ j ∧ j < 26 * c + 26 then v (j - 26 * c) else h.1 j := by
  intro m
  induction m with
  | zero =>
    intro i n h hh hi hn
    cases n with
    | zero => omega
    | succ n =>
      obtain rfl : i = 26 := by omega
      refine ⟨h.1, ?_, fun j => ?_⟩
      · rw [f_X12_remembers_L51, if_pos (show (26 : Int32) ≤ nI 26 by decide), hh, nI_1]
      · rw [if_neg (by omega)]
  | succ m ih =>
    intro i n h hh hi hn
    cases n with
    | zero => omega
    | succ n =>
      have ei : (26 : Int32) * h.2.2.1 + nI i = nI (26 * c + i) := by rw [hh, show (26 : Int32) * nI c = nI (26 * c) from nI_mul 26 c, nI_add]
      obtain ⟨P, e, hP⟩ := ih (i + 1) n (upd h.1 (26 * c + i) (v i), h.2) hh (by omega) (by omega)
      refine ⟨P, ?_, fun j => ?_⟩
      · rw [f_X12_remembers_L51, if_neg (show ¬ (26 : Int32) ≤ nI i by rw [show (26 : Int32) = nI 26 from rfl, nI_leI (by omega) (by omega)]; omega), ei, gA_in (vin (show i < 26 by omega) (by omega)), gA_in (vp_in_nI (show 26 * c + i < 416 by omega) (by omega)), nI_clamp (show i < 2 ^ 31 by omega), nI_clamp (show 26 * c + i < 2 ^ 31 by omega), nI_1]
        exact e
      · rw [hP j]
        by_cases c1 : 26 * c + (i + 1) ≤ j ∧ j < 26 * c + 26
        · rw [if_pos c1, if_pos ⟨by omega, by omega⟩]
        · rw [if_neg c1]
          by_cases c2 : j = 26 * c + i
          · subst c2
            rw [if_pos ⟨by omega, by omega⟩, show 26 * c + i - 26 * c = i by omega]
            exact upd_at
          · rw [if_neg (by omega)]
            exact upd_no c2
theorem rem_L11 {v : Nat → Int32} : ∀ (m i n : Nat) (h : TX12_h), i + m = 390 → m < n → ∃ P : Nat → Int32, f_X12_remembers_L11 v n (nI i) h = f_X12_remembers_J49 v (P, h.2.1, h.2.2.1 - 1, h.2.2.2) ∧ ∀ j, P j = if i ≤ j ∧ j < 390 then h.1 (j + 26) else h.1 j := by
  intro m
  induction m with
  | zero =>
    intro i n h hi hn
    cases n with
    | zero => omega
    | succ n =>
      obtain rfl : i = 390 := by omega
      refine ⟨h.1, ?_, fun j => ?_⟩
      · rw [f_X12_remembers_L11, if_pos (show (390 : Int32) ≤ nI 390 by decide)]
      · rw [if_neg (by omega)]
  | succ m ih =>
    intro i n h hi hn
    cases n with
    | zero => omega
    | succ n =>
      have ei : nI i + (26 : Int32) = nI (i + 26) := nI_add i 26
      obtain ⟨P, e, hP⟩ := ih (i + 1) n (upd h.1 i (h.1 (i + 26)), h.2) (by omega) (by omega)
      refine ⟨P, ?_, fun j => ?_⟩
      · rw [f_X12_remembers_L11, if_neg (show ¬ (390 : Int32) ≤ nI i by rw [show (390 : Int32) = nI 390 from rfl, nI_leI (by omega) (by omega)]; omega), ei, gA_in (vp_in_nI (show i + 26 < 416 by omega) (by omega)), gA_in (vp_in_nI (show i < 416 by omega) (by omega)), nI_clamp (show i < 2 ^ 31 by omega), nI_clamp (show i + 26 < 2 ^ 31 by omega), nI_1]
        exact e
      · rw [hP j]
        by_cases c1 : i + 1 ≤ j ∧ j < 390
        · rw [if_pos c1, if_pos ⟨by omega, by omega⟩]
          exact upd_no (by omega)
        · rw [if_neg c1]
          by_cases c2 : j = i
          · subst c2
            rw [if_pos ⟨by omega, by omega⟩]
            exact upd_at
          · rw [if_neg (by omega)]
            exact upd_no c2
theorem rem_eq {v : Nat → Int32} {h : TX12_h} {c : Nat} (hc : c ≤ 16) (hh : h.2.2.1 = nI c) : ∃ P : Nat → Int32, f_X12_remembers v h = some (P, h.2.1, nI (if c = 16 then 16 else c + 1), h.2.2.2) ∧ ∀ i j, j < 26 → i < 16 → P (26 * i + j) = if c = 16 then (if i = 15 then v j else h.1 (26 * (i + 1) + j)) else (if i = c then v j else h.1 (26 * i + j)) := by
  rw [f_X12_remembers]
  by_cases c16 : c = 16
  · subst c16
    rw [if_pos (show h.2.2.1 = (16 : Int32) from hh)]
    obtain ⟨P, e, hP⟩ := rem_L11 (v := v) 390 0 FU h (by omega) (by unfold FU; omega)
    obtain ⟨P2, e2, hP2⟩ := rem_L51 (v := v) (c := 15) (by omega) 26 0 FU (P, h.2.1, h.2.2.1 - 1, h.2.2.2) (by show h.2.2.1 - 1 = nI 15; rw [hh]; rfl) (by omega) (by unfold FU; omega)
    refine ⟨P2, ?_, fun i j hj hi => ?_⟩
    · rw [show (0 : Int32) = nI 0 from rfl, e, f_X12_remembers_J49, show (0 : Int32) = nI 0 from rfl, e2]
      rfl
    · rw [if_pos rfl, hP2]
      by_cases c1 : i = 15
      · subst c1
        rw [if_pos ⟨by omega, by omega⟩, if_pos rfl]
        exact congrArg v (by omega)
      · rw [if_neg (by omega), if_neg c1]
        show P (26 * i + j) = _
        rw [hP, if_pos ⟨by omega, by omega⟩]
        exact congrArg h.1 (by omega)
  · rw [if_neg (show ¬ h.2.2.1 = (16 : Int32) by rw [hh]; intro z; rw [fa_eq, nI_toInt (by omega), ltv_16] at z; omega)]
    obtain ⟨P2, e2, hP2⟩ := rem_L51 (v := v) (c := c) (by omega) 26 0 FU h hh (by omega) (by unfold FU; omega)
    refine ⟨P2, ?_, fun i j hj hi => ?_⟩
    · rw [f_X12_remembers_J49, show (0 : Int32) = nI 0 from rfl, e2, if_neg c16]
    · rw [if_neg c16, hP2]
      by_cases c1 : i = c
      · subst c1
        rw [if_pos ⟨by omega, by omega⟩, if_pos rfl]
        exact congrArg v (by omega)
      · rw [if_neg (by omega), if_neg c1]
/-! what was, on both sides -/
def HV (sp de ba : Nat) (h : TX2_h) (K : Nat → TX4_n) (g : TX12_h) : Prop := ∃ o c m : Nat, o < 16 ∧ c ≤ 16 ∧ m ≤ 3 ∧ h = (nI o, nI c, nI m) ∧ g.2.2.1 = nI c ∧ g.2.2.2 = nI m ∧ (∀ i, i < c → ∃ t, t ≤ 999 ∧ NV sp de ba t (K ((o + i) % 16)) (fun j => g.1 (26 * i + j))) ∧ (∀ i, i < m → ∃ t, t ≤ 999 ∧ NV sp de ba t (K (16 + i)) (fun j => g.2.1 (26 * i + j)))
/-- where the class keeps the next row -/
def kpI (h : TX2_h) : Nat := (((h.1 + h.2.1) - (h.1 + h.2.1) / (16 : Int32) * (16 : Int32))).toNatClampNeg % 16
theorem updN_at {K : Nat → TX4_n} {i : Nat} {v : TX4_n} : updN K i v i = v := if_pos rfl
theorem updN_no {K : Nat → TX4_n} {i j : Nat} {v : TX4_n} (h : ¬ j = i) : updN K i v j = K j := if_neg h
/-- an ACT is kept: both sides -/
theorem keep_hv {sp de ba t : Nat} {n : TX4_n} {v : Nat → Int32} {h : TX2_h} {K : Nat → TX4_n} {g : TX12_h} (hn : NV sp de ba t n v) (ht : t ≤ 999) (hh : HV sp de ba h K g) : ∃ (h' : TX2_h) (n' : TX4_n) (g' : TX12_h), f_X2_keep h n (K (kpI h)) = some (h', n') ∧ f_X12_remembers v g = some g' ∧ HV sp de ba h' (updN K (kpI h) n') g' := by
  obtain ⟨o, c, m, ho, hc, hm, rfl, g1, g2, hr, hk⟩ := hh
  have er : (nI o + nI c) - (nI o + nI c) / (16 : Int32) * (16 : Int32) = nI ((o + c) % 16) := by
    rw [nI_add, show (16 : Int32) = nI 16 from rfl, pk_rem (by omega) (by omega) (by omega)]
  have ek : kpI (nI o, nI c, nI m) = (o + c) % 16 := by
    unfold kpI
    dsimp only
    rw [er, nI_clamp (by omega)]
    omega
  obtain ⟨P, e2, hP⟩ := rem_eq (v := v) hc g1
  rw [ek, f_X2_keep]
  dsimp only [nm]
  rw [er, gA_in (vin (show (o + c) % 16 < 16 by omega) (by omega))]
  by_cases c16 : c = 16
  · subst c16
    rw [if_pos (show (16 : Int32) ≤ nI 16 by decide)]
    have eo : (nI o + 1) - (nI o + 1) / (16 : Int32) * (16 : Int32) = nI ((o + 1) % 16) := by
      rw [nI_1, show (16 : Int32) = nI 16 from rfl, pk_rem (by omega) (by omega) (by omega)]
    refine ⟨_, _, _, rfl, e2, (o + 1) % 16, 16, m, by omega, by omega, hm, by rw [eo], rfl, g2, fun i hi => ?_, fun i hi => ?_⟩
    · by_cases c1 : i = 15
      · subst c1
        refine ⟨t, ht, ?_⟩
        rw [show ((o + 1) % 16 + 15) % 16 = (o + 16) % 16 by omega, updN_at]
        refine nv_cg (nv_bec hn) rfl rfl rfl (fun _ _ => ⟨rfl, rfl, rfl⟩) (fun _ _ => rfl) (fun j hj => ?_)
        show P (26 * 15 + j) = v j
        rw [hP 15 j hj (by omega), if_pos rfl, if_pos rfl]
      · obtain ⟨t', ht', hv'⟩ := hr (i + 1) (by omega)
        refine ⟨t', ht', ?_⟩
        rw [updN_no (by omega), show ((o + 1) % 16 + i) % 16 = (o + (i + 1)) % 16 by omega]
        refine nv_cg hv' rfl rfl rfl (fun _ _ => ⟨rfl, rfl, rfl⟩) (fun _ _ => rfl) (fun j hj => ?_)
        show P (26 * i + j) = g.1 (26 * (i + 1) + j)
        rw [hP i j hj hi, if_pos rfl, if_neg c1]
    · rw [updN_no (by omega)]
      exact hk i hi
  · rw [if_neg (show ¬ (16 : Int32) ≤ nI c by rw [show (16 : Int32) = nI 16 from rfl, nI_leI (by omega) (by omega)]; omega), nI_1]
    rw [if_neg c16] at e2
    refine ⟨_, _, _, rfl, e2, o, c + 1, m, ho, by omega, hm, rfl, rfl, g2, fun i hi => ?_, fun i hi => ?_⟩
    · by_cases c1 : i = c
      · subst c1
        refine ⟨t, ht, ?_⟩
        rw [updN_at]
        refine nv_cg (nv_bec hn) rfl rfl rfl (fun _ _ => ⟨rfl, rfl, rfl⟩) (fun _ _ => rfl) (fun j hj => ?_)
        show P (26 * i + j) = v j
        rw [hP i j hj (by omega), if_neg c16, if_pos rfl]
      · obtain ⟨t', ht', hv'⟩ := hr i (by omega)
        refine ⟨t', ht', ?_⟩
        rw [updN_no (by omega)]
        refine nv_cg hv' rfl rfl rfl (fun _ _ => ⟨rfl, rfl, rfl⟩) (fun _ _ => rfl) (fun j hj => ?_)
        show P (26 * i + j) = g.1 (26 * i + j)
        rw [hP i j hj (by omega), if_neg c16, if_neg c1]
    · rw [updN_no (by omega)]
      exact hk i hi
/-- nothing to undo, no marks -/
theorem hv_0 {sp de ba o : Nat} (ho : o < 16) (K : Nat → TX4_n) (P Q : Nat → Int32) : HV sp de ba (nI o, 0, 0) K (P, Q, 0, 0) := ⟨o, 0, 0, ho, by omega, by omega, rfl, rfl, rfl, fun i hi => absurd hi (by omega), fun i hi => absurd hi (by omega)⟩
