/-! undo, marks; a new pier -/
theorem und_L {tt : TX12_t} {g : TX12_h} {c : Nat} (h1 : 1 ≤ c) (hc : c ≤ 16) (hg : g.2.2.1 = nI c) : ∀ (m i n : Nat) (w : Nat → Int32), i + m = 26 → m < n → ∃ w' : Nat → Int32, f_X12_undo_L38 tt g n (nI i) w = some (1, (0, 0, -1), w', (g.1, g.2.1, nI (c - 1), g.2.2.2)) ∧ ∀ j, j < 26 → w' j = if i ≤ j then g.1 (26 * (c - 1) + j) else w j := by
  have ec : g.2.2.1 - 1 = nI (c - 1) := by rw [hg, nI_sub1 h1 (by omega)]
  intro m
  induction m with
  | zero =>
    intro i n w hi hn
    cases n with
    | zero => omega
    | succ n =>
      obtain rfl : i = 26 := by omega
      refine ⟨w, ?_, fun j hj => ?_⟩
      · rw [f_X12_undo_L38, if_pos (show (26 : Int32) ≤ nI 26 by decide), ec]
        rfl
      · rw [if_neg (by omega)]
  | succ m ih =>
    intro i n w hi hn
    cases n with
    | zero => omega
    | succ n =>
      have ei : (26 : Int32) * (g.2.2.1 - 1) + nI i = nI (26 * (c - 1) + i) := by rw [ec, show (26 : Int32) * nI (c - 1) = nI (26 * (c - 1)) from nI_mul 26 (c - 1), nI_add]
      obtain ⟨w', e, hw⟩ := ih (i + 1) n (upd w i (g.1 (26 * (c - 1) + i))) (by omega) (by omega)
      refine ⟨w', ?_, fun j hj => ?_⟩
      · rw [f_X12_undo_L38, if_neg (show ¬ (26 : Int32) ≤ nI i by rw [show (26 : Int32) = nI 26 from rfl, nI_leI (by omega) (by omega)]; omega), ei, gA_in (vp_in_nI (show 26 * (c - 1) + i < 416 by omega) (by omega)), nI_clamp (show 26 * (c - 1) + i < 2 ^ 31 by omega)]
        dsimp only [nm]
        rw [gA_in (vin (show i < 26 by omega) (by omega)), nI_clamp (show i < 2 ^ 31 by omega), nI_1]
        exact e
      · rw [hw j hj]
        by_cases c1 : i + 1 ≤ j
        · rw [if_pos c1, if_pos (by omega)]
        · rw [if_neg c1]
          by_cases c2 : j = i
          · subst c2
            rw [if_pos (by omega)]
            exact upd_at
          · rw [if_neg (by omega)]
            exact upd_no c2
theorem mrk_L {tt : TX12_t} {v : Nat → Int32} {k : Nat} (hk : k ≤ 2) : ∀ (m i n : Nat) (g : TX12_h), g.2.2.2 = nI k → i + m = 26 → m < n → ∃ Q : Nat → Int32, f_X12_mark_L34 tt v n (nI i) g = some (nI k, (0, 0, -1), (g.1, Q, g.2.2.1, nI (k + 1))) ∧ ∀ j, Q j = if 26 * k + i ≤ j ∧ j < 26 * k + 26 then v (j - 26 * k) else g.2.1 j := by
  intro m
  induction m with
  | zero =>
    intro i n g hg hi hn
    cases n with
    | zero => omega
    | succ n =>
      obtain rfl : i = 26 := by omega
      refine ⟨g.2.1, ?_, fun j => ?_⟩
      · rw [f_X12_mark_L34, if_pos (show (26 : Int32) ≤ nI 26 by decide), hg, nI_1, nI_sub1 (by omega) (by omega)]
        rfl
      · rw [if_neg (by omega)]
  | succ m ih =>
    intro i n g hg hi hn
    cases n with
    | zero => omega
    | succ n =>
      have ei : (26 : Int32) * g.2.2.2 + nI i = nI (26 * k + i) := by rw [hg, show (26 : Int32) * nI k = nI (26 * k) from nI_mul 26 k, nI_add]
      obtain ⟨Q, e, hQ⟩ := ih (i + 1) n (g.1, upd g.2.1 (26 * k + i) (v i), g.2.2) hg (by omega) (by omega)
      refine ⟨Q, ?_, fun j => ?_⟩
      · rw [f_X12_mark_L34, if_neg (show ¬ (26 : Int32) ≤ nI i by rw [show (26 : Int32) = nI 26 from rfl, nI_leI (by omega) (by omega)]; omega), ei, gA_in (vin (show i < 26 by omega) (by omega)), gA_in (vp_in_nI (show 26 * k + i < 78 by omega) (by omega)), nI_clamp (show i < 2 ^ 31 by omega), nI_clamp (show 26 * k + i < 2 ^ 31 by omega), nI_1]
        exact e
      · rw [hQ j]
        by_cases c1 : 26 * k + (i + 1) ≤ j ∧ j < 26 * k + 26
        · rw [if_pos c1, if_pos ⟨by omega, by omega⟩]
        · rw [if_neg c1]
          by_cases c2 : j = 26 * k + i
          · subst c2
            rw [if_pos ⟨by omega, by omega⟩, show 26 * k + i - 26 * k = i by omega]
            exact upd_at
          · rw [if_neg (by omega)]
            exact upd_no c2
theorem bck_L {tt : TX12_t} {g : TX12_h} {k : Nat} (hk : k ≤ 2) : ∀ (m i n : Nat) (w : Nat → Int32), i + m = 26 → m < n → ∃ w' : Nat → Int32, f_X12_back_L32 (nI k) tt g n (nI i) w = some (1, (0, 0, -1), w', (g.1, g.2.1, 0, g.2.2.2)) ∧ ∀ j, j < 26 → w' j = if i ≤ j then g.2.1 (26 * k + j) else w j := by
  intro m
  induction m with
  | zero =>
    intro i n w hi hn
    cases n with
    | zero => omega
    | succ n =>
      obtain rfl : i = 26 := by omega
      refine ⟨w, ?_, fun j hj => ?_⟩
      · rw [f_X12_back_L32, if_pos (show (26 : Int32) ≤ nI 26 by decide)]
        rfl
      · rw [if_neg (by omega)]
  | succ m ih =>
    intro i n w hi hn
    cases n with
    | zero => omega
    | succ n =>
      have ei : (26 : Int32) * nI k + nI i = nI (26 * k + i) := by rw [show (26 : Int32) * nI k = nI (26 * k) from nI_mul 26 k, nI_add]
      obtain ⟨w', e, hw⟩ := ih (i + 1) n (upd w i (g.2.1 (26 * k + i))) (by omega) (by omega)
      refine ⟨w', ?_, fun j hj => ?_⟩
      · rw [f_X12_back_L32, if_neg (show ¬ (26 : Int32) ≤ nI i by rw [show (26 : Int32) = nI 26 from rfl, nI_leI (by omega) (by omega)]; omega), ei, gA_in (vp_in_nI (show 26 * k + i < 78 by omega) (by omega)), nI_clamp (show 26 * k + i < 2 ^ 31 by omega), gA_in (vin (show i < 26 by omega) (by omega)), nI_clamp (show i < 2 ^ 31 by omega), nI_1]
        exact e
      · rw [hw j hj]
        by_cases c1 : i + 1 ≤ j
        · rw [if_pos c1, if_pos (by omega)]
        · rw [if_neg c1]
          by_cases c2 : j = i
          · subst c2
            rw [if_pos (by omega)]
            exact upd_at
          · rw [if_neg (by omega)]
            exact upd_no c2
/-- where the class has the row that is taken back -/
def kuI (h : TX2_h) : Nat := (((h.1 + (h.2.1 - (1 : Int32))) - (h.1 + (h.2.1 - (1 : Int32))) / (16 : Int32) * (16 : Int32))).toNatClampNeg % 16
section BACKS
variable {p : TX6_p} {q : TX11_q} {sp de ba as an bi cf ct t : Nat} {n : TX4_n} {v : Nat → Int32} {h : TX2_h} {K : Nat → TX4_n} {g : TX12_h}
theorem ac_undo (hn : NV sp de ba t n v) (ht : t ≤ 999) (hh : HV sp de ba h K g) (x : TX10_x) (tt : TX12_t) : ∃ (r tr : Int32) (n' : TX4_n) (h' : TX2_h) (v' : Nat → Int32) (g' : TX12_h) (t' : Nat), f_X10_undo x (K (kuI h)) n h = some (r, (tr, x.2), n', h') ∧ f_X12_undo tt v g = some (r, (0, tr, -1), v', g') ∧ t' ≤ 999 ∧ NV sp de ba t' n' v' ∧ HV sp de ba h' K g' := by
  obtain ⟨o, c, m, ho, hc, hm, rfl, g1, g2, hr, hk⟩ := id hh
  rw [f_X10_undo, f_X12_undo]
  by_cases c0 : c = 0
  · subst c0
    rw [if_pos (show (nI o, nI 0, nI m).2.1 = 0 from rfl), if_pos (show g.2.2.1 = 0 from g1), f_X10_undo_J17]
    dsimp only [nm]
    rw [ref_n (show ¬ (6 : Int32) = 0 by decide), if_neg one_ne]
    exact ⟨0, 6, n, _, v, g, t, rfl, rfl, ht, hn, hh⟩
  · have hc0 : ¬ nI c = 0 := nI_ne0 (by omega) (by omega)
    rw [if_neg (show ¬ (nI o, nI c, nI m).2.1 = 0 from hc0), if_neg (show ¬ g.2.2.1 = 0 by rw [g1]; exact hc0), f_X10_undo_J17]
    dsimp only [nm]
    have er : (nI o + (nI c - 1)) - (nI o + (nI c - 1)) / (16 : Int32) * (16 : Int32) = nI ((o + (c - 1)) % 16) := by
      rw [nI_sub1 (by omega) (by omega), nI_add, show (16 : Int32) = nI 16 from rfl, pk_rem (by omega) (by omega) (by omega)]
    have ek : kuI (nI o, nI c, nI m) = (o + (c - 1)) % 16 := by
      unfold kuI
      dsimp only
      rw [er, nI_clamp (by omega)]
      omega
    obtain ⟨w', e2, hw⟩ := und_L (tt := tt) (by omega) hc g1 26 0 FU v (by omega) (by unfold FU; omega)
    rw [ref_0, if_pos rfl, f_X2_takeBack]
    dsimp only [nm]
    rw [if_neg (show ¬ nI c ≤ 0 by rw [show (0 : Int32) = nI 0 from rfl, nI_leI (by omega) (by omega)]; omega), er, gA_in (vin (show (o + (c - 1)) % 16 < 16 by omega) (by omega)), Option.bind_some, nI_sub1 (by omega) (by omega), show (0 : Int32) = nI 0 from rfl, e2, ek]
    obtain ⟨t', ht', hv'⟩ := hr (c - 1) (by omega)
    refine ⟨1, 0, _, _, _, _, t', rfl, rfl, ht', ?_, o, c - 1, m, ho, by omega, hm, rfl, rfl, g2, fun i hi => hr i (by omega), hk⟩
    refine nv_cg (nv_bec hv') rfl rfl rfl (fun _ _ => ⟨rfl, rfl, rfl⟩) (fun _ _ => rfl) (fun j hj => ?_)
    rw [hw j hj, if_pos (by omega)]
theorem ac_mark (hq : PQ p q sp de ba as an bi cf ct) (hn : NV sp de ba t n v) (ht : t ≤ 999) (hh : HV sp de ba h K g) (x : TX10_x) (tt : TX12_t) : ∃ (r tr : Int32) (kn : TX4_n) (h' : TX2_h) (g' : TX12_h), f_X10_mark x (K (16 + h.2.2.toNatClampNeg % 3)) p n h = some (r, (tr, x.2), kn, h') ∧ f_X12_mark tt v g = some (r, (0, tr, -1), g') ∧ HV sp de ba h' (updN K (16 + h.2.2.toNatClampNeg % 3) kn) g' := by
  obtain ⟨o, c, m, ho, hc, hm, rfl, g1, g2, hr, hk⟩ := id hh
  rw [f_X10_mark, f_X12_mark]
  dsimp only [nm]
  rw [pt_0 hq, if_pos rfl]
  by_cases c3 : m = 3
  · subst c3
    rw [if_neg (show ¬ nI 3 < (3 : Int32) by decide), if_pos (show g.2.2.2 = (3 : Int32) from g2), f_X10_mark_J26]
    dsimp only [nm]
    rw [ref_n (show ¬ (3 : Int32) = 0 by decide), if_neg one_ne]
    exact ⟨-1, 3, _, _, g, rfl, rfl, by rw [upK]; exact hh⟩
  · have hm3 : nI m < (3 : Int32) := by
      rw [show (3 : Int32) = nI 3 from rfl, nI_ltI (by omega) (by omega)]
      omega
    rw [if_pos hm3, if_neg (show ¬ g.2.2.2 = (3 : Int32) by rw [g2]; intro z; rw [fa_eq, nI_toInt (by omega), ltv_3] at z; omega), f_X10_mark_J25, f_X10_mark_J26]
    dsimp only [nm]
    obtain ⟨Q, e2, hQ⟩ := mrk_L (tt := tt) (v := v) (k := m) (by omega) 26 0 FU g g2 (by omega) (by unfold FU; omega)
    rw [ref_0, if_pos rfl, f_X2_setMark]
    dsimp only [nm]
    rw [if_pos hm3, gA_in (vin (show m < 3 by omega) (by omega)), Option.bind_some, nI_1, nI_sub1 (by omega) (by omega), show (0 : Int32) = nI 0 from rfl, e2, nI_clamp (show m < 2 ^ 31 by omega), show m % 3 = m by omega, show m + 1 - 1 = m by omega]
    refine ⟨nI m, 0, _, _, _, rfl, rfl, o, c, m + 1, ho, hc, by omega, rfl, g1, rfl, fun i hi => ?_, fun i hi => ?_⟩
    · rw [updN_no (by omega)]
      exact hr i hi
    · by_cases c1 : i = m
      · subst c1
        refine ⟨t, ht, ?_⟩
        rw [updN_at]
        refine nv_cg (nv_bec hn) rfl rfl rfl (fun _ _ => ⟨rfl, rfl, rfl⟩) (fun _ _ => rfl) (fun j hj => ?_)
        show Q (26 * i + j) = v j
        rw [hQ, if_pos ⟨by omega, by omega⟩]
        exact congrArg v (by omega)
      · obtain ⟨t', ht', hv'⟩ := hk i (by omega)
        refine ⟨t', ht', ?_⟩
        rw [updN_no (by omega)]
        refine nv_cg hv' rfl rfl rfl (fun _ _ => ⟨rfl, rfl, rfl⟩) (fun _ _ => rfl) (fun j hj => ?_)
        show Q (26 * i + j) = g.2.1 (26 * i + j)
        rw [hQ, if_neg (by omega)]
theorem ac_back (hn : NV sp de ba t n v) (ht : t ≤ 999) (hh : HV sp de ba h K g) (k1 : Int32) (x : TX10_x) (tt : TX12_t) : ∃ (r tr : Int32) (n' : TX4_n) (h' : TX2_h) (v' : Nat → Int32) (g' : TX12_h) (t' : Nat), f_X10_back k1 x (K (16 + k1.toNatClampNeg % 3)) n h = some (r, (tr, x.2), n', h') ∧ f_X12_back k1 tt v g = some (r, (0, tr, -1), v', g') ∧ t' ≤ 999 ∧ NV sp de ba t' n' v' ∧ HV sp de ba h' K g' := by
  obtain ⟨o, c, m, ho, hc, hm, rfl, g1, g2, hr, hk⟩ := id hh
  rw [f_X10_back, f_X12_back]
  dsimp only [nm]
  by_cases c1 : inN k1 m
  · obtain ⟨k, hkm, rfl⟩ := inN_of c1
    have hw := (wi_n (show m ≤ 100000 by omega)).1 c1
    rw [hw, if_neg one_ne, if_neg (show ¬ nI k < 0 by rw [show (0 : Int32) = nI 0 from rfl, nI_ltI (by omega) (by omega)]; omega), g2, if_pos (show nI k < nI m by rw [nI_ltI (by omega) (by omega)]; omega), f_X10_back_J23]
    dsimp only [nm]
    obtain ⟨w', e2, hw'⟩ := bck_L (tt := tt) (g := g) (k := k) (by omega) 26 0 FU v (by omega) (by unfold FU; omega)
    rw [ref_0, if_pos rfl, f_X2_goBack]
    dsimp only [nm]
    rw [hw, if_neg one_ne, gA_in (vin (show k < 3 by omega) (by omega)), Option.bind_some, show FU = FU from rfl, show (0 : Int32) = nI 0 from rfl, e2, nI_clamp (show k < 2 ^ 31 by omega), show k % 3 = k by omega]
    obtain ⟨t', ht', hv'⟩ := hk k hkm
    refine ⟨1, 0, _, _, _, _, t', rfl, rfl, ht', ?_, o, 0, m, ho, by omega, hm, rfl, rfl, g2, fun i hi => absurd hi (by omega), hk⟩
    refine nv_cg (nv_bec hv') rfl rfl rfl (fun _ _ => ⟨rfl, rfl, rfl⟩) (fun _ _ => rfl) (fun j hj => ?_)
    rw [hw' j hj, if_pos (by omega)]
  · have hw := (wi_n (show m ≤ 100000 by omega)).2 c1
    have em : f_X12_back_J24 tt v g = some (0, (0, 1, -1), v, g) := rfl
    rw [hw, if_pos rfl, f_X10_back_J23, em]
    dsimp only [nm]
    rw [ref_n one_ne, if_neg one_ne]
    refine ⟨0, 1, n, _, v, g, t, rfl, ?_, ht, hn, hh⟩
    by_cases c2 : k1 < 0
    · rw [if_pos c2]
    · rw [if_neg c2, if_neg]
      rw [g2, fa_lt, nI_toInt (by omega)]
      rw [fa_lt, ltv_0] at c2
      intro z
      exact c1 ⟨by omega, z⟩
/-- a new pier: day 0, all answers there, no line out -/
theorem nv_new {st li lo lb v' : Nat → Int32} (h1 : ∀ j, j < 6 → st j = 0) (h2 : ∀ j, j < 5 → li j = -1) (h3 : vrow v') : NV sp de ba 0 (0, 0, 0, st, lo, lb, li) v' := by
  obtain ⟨v1, v2, v3⟩ := h3
  refine ⟨0, by omega, rfl, v3 23 (by omega) (by omega), rfl, v3 24 (by omega) (by omega), (v3 25 (by omega) (by omega)).symm, fun a ha => Or.inl ⟨h1 a ha, v1 a ha, v2 _ (by omega) (by omega), v2 _ (by omega) (by omega)⟩, fun k hk => Or.inl ⟨h2 k hk, v2 _ (by omega) (by omega)⟩⟩
end BACKS
