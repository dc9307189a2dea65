/-! a day by draws, on both sides -/
section GOES
variable {p : TX6_p} {q : TX11_q} {sp de ba as an bi cf ct t : Nat} {n : TX4_n} {v : Nat → Int32}
theorem nv_draw (hn : NV sp de ba t n v) {z : Nat} (hz : z ≤ 65536) : NV sp de ba t (n.1, nI z, n.2.2) (upd v 24 (nI z)) := by
  obtain ⟨sd, b1, e1, e2, e3, e4, e5, hs, hl⟩ := hn
  refine ⟨z, hz, e1, ?_, rfl, upd_at, ?_, fun a ha => ?_, fun k hk => ?_⟩
  · rw [upd_no (by omega)]
    exact e2
  · rw [upd_no (by omega)]
    exact e5
  · have := hs a ha
    unfold NS at this ⊢
    rw [upd_no (show ¬ a = 24 by omega), upd_no (show ¬ 6 + a = 24 by omega), upd_no (show ¬ 12 + a = 24 by omega)]
    exact this
  · rw [upd_no (show ¬ 18 + k = 24 by omega)]
    exact hl k hk
theorem nv_next (hn : NV sp de ba t n v) : NV sp de ba (t + 1) (n.1 + 1, n.2) (upd v 23 (v 23 + 1)) := by
  obtain ⟨sd, b1, e1, e2, e3, e4, e5, hs, hl⟩ := hn
  refine ⟨sd, b1, ?_, ?_, e3, ?_, ?_, fun a ha => ?_, fun k hk => ?_⟩
  · show n.1 + 1 = nI (t + 1)
    rw [e1, nI_1]
  · rw [upd_at, e2, nI_1]
  · rw [upd_no (by omega)]
    exact e4
  · rw [upd_no (by omega)]
    exact e5
  · have := hs a ha
    unfold NS at this ⊢
    rw [upd_no (show ¬ a = 23 by omega), upd_no (show ¬ 6 + a = 23 by omega), upd_no (show ¬ 12 + a = 23 by omega)]
    rcases this with h | ⟨h1, h2, d, k, h3, h4⟩
    · exact Or.inl h
    · exact Or.inr ⟨h1, h2, d, k, by omega, h4⟩
  · rw [upd_no (show ¬ 18 + k = 23 by omega)]
    exact hl k hk
theorem nv_land (hn : NV sp de ba t n v) {a k : Nat} (ha : a < 6) (hk : k < 5) : NV sp de ba t (n.1, n.2.1, n.2.2.1, upd n.2.2.2.1 a 1, upd n.2.2.2.2.1 a n.1, upd n.2.2.2.2.2.1 a (nI k), n.2.2.2.2.2.2) (upd (upd (upd v a 1) (6 + a) (nI t)) (12 + a) (nI k)) := by
  obtain ⟨sd, b1, e1, e2, e3, e4, e5, hs, hl⟩ := hn
  refine ⟨sd, b1, e1, ?_, e3, ?_, ?_, fun a' ha' => ?_, fun k' hk' => ?_⟩
  · rw [upd_no (show ¬ 23 = 12 + a by omega), upd_no (show ¬ 23 = 6 + a by omega), upd_no (show ¬ 23 = a by omega)]
    exact e2
  · rw [upd_no (show ¬ 24 = 12 + a by omega), upd_no (show ¬ 24 = 6 + a by omega), upd_no (show ¬ 24 = a by omega)]
    exact e4
  · rw [upd_no (show ¬ 25 = 12 + a by omega), upd_no (show ¬ 25 = 6 + a by omega), upd_no (show ¬ 25 = a by omega)]
    exact e5
  · unfold NS
    dsimp only
    by_cases c : a' = a
    · rw [c]
      have v0 : upd (upd (upd v a 1) (6 + a) (nI t)) (12 + a) (nI k) a = 1 := by
        rw [upd_no (show ¬ a = 12 + a by omega), upd_no (show ¬ a = 6 + a by omega), upd_at]
      have v6 : upd (upd (upd v a 1) (6 + a) (nI t)) (12 + a) (nI k) (6 + a) = nI t := by
        rw [upd_no (show ¬ 6 + a = 12 + a by omega), upd_at]
      exact Or.inr ⟨Or.inl v0, by rw [v0, upd_at], t, k, Nat.le_refl t, hk, by rw [upd_at, e1], v6, upd_at, upd_at⟩
    · have := hs a' ha'
      unfold NS at this
      rw [upd_no (show ¬ a' = 12 + a by omega), upd_no (show ¬ a' = 6 + a by omega), upd_no c, upd_no (show ¬ 6 + a' = 12 + a by omega), upd_no (show ¬ 6 + a' = 6 + a by omega), upd_no (show ¬ 6 + a' = a by omega), upd_no (show ¬ 12 + a' = 12 + a by omega), upd_no (show ¬ 12 + a' = 6 + a by omega), upd_no (show ¬ 12 + a' = a by omega), upd_no c, upd_no c, upd_no c]
      exact this
  · rw [upd_no (show ¬ 18 + k' = 12 + a by omega), upd_no (show ¬ 18 + k' = 6 + a by omega), upd_no (show ¬ 18 + k' = a by omega)]
    exact hl k' hk'
theorem ns_0 {a : Nat} (h : NS t n v a) : (n.2.2.2.1 a = 0 ∧ v a = 0) ∨ (¬ n.2.2.2.1 a = 0 ∧ ¬ v a = 0) := by
  rcases h with ⟨h1, h2, -⟩ | ⟨h1, h2, -⟩
  · exact Or.inl ⟨h1, h2⟩
  · have h3 : ¬ v a = 0 := by
      rcases h1 with h | h <;> rw [h] <;> decide
    exact Or.inr ⟨by rw [h2]; exact h3, h3⟩
theorem draw_x {sd : Nat} (h : sd ≤ 65536) (e : n.2.1 = nI sd) : f_X4_draw n = (nI ((75 * sd + 74) % 65537 % 100), (n.1, nI ((75 * sd + 74) % 65537), n.2.2)) := by
  unfold f_X4_draw
  dsimp only [nm]
  rw [e, draw_i h, hund_i (by omega)]
/-- who takes a question -/
theorem tk_L (hq : PQ p q sp de ba as an bi cf ct) {s f b : Nat} (hs : s < sp) (h1 : 1 ≤ f) (h2 : f ≤ de) (hb : b < ba) : ∀ (m j N N' : Nat) (n : TX4_n) (v : Nat → Int32), j + m = an → m < N → m < N' → NV sp de ba t n v → ∃ (n' : TX4_n) (v' : Nat → Int32), NV sp de ba t n' v' ∧ n'.2.2.2.2.2.2 = n.2.2.2.2.2.2 ∧ (∀ k, k < 5 → v' (18 + k) = v (18 + k)) ∧ ((f_X1_taker_L2 (nI (100 * s + 10 * f + b)) p N (nI j) n = some (-1, n') ∧ f_X12_taker_L2 (nI ((s * de + f - 1) * ba + b)) q N' (nI j) v = some (-2, v')) ∨ ∃ a, a < an ∧ f_X1_taker_L2 (nI (100 * s + 10 * f + b)) p N (nI j) n = some (nI a, n') ∧ f_X12_taker_L2 (nI ((s * de + f - 1) * ba + b)) q N' (nI j) v = some (nI a, v')) := by
  obtain ⟨-, -, -, -, -, ⟨s1, s2, s3⟩, -⟩ := id hq
  intro m
  induction m with
  | zero =>
    intro j N N' n v hj hN hN' hn
    cases N with
    | zero => omega
    | succ N =>
      cases N' with
      | zero => omega
      | succ N' =>
        refine ⟨n, v, hn, rfl, fun _ _ => rfl, Or.inl ⟨?_, ?_⟩⟩
        · rw [f_X1_taker_L2, show p.2.2.2.2.2.2.1 = nI an from s1, if_pos ((nI_leI (by omega) (by omega)).mpr (by omega))]
        · rw [f_X12_taker_L2, show q.2.2.2.2.2.2.1 = nI an from s2, if_pos ((nI_leI (by omega) (by omega)).mpr (by omega))]
  | succ m ih =>
    intro j N N' n v hj hN hN' hn
    cases N with
    | zero => omega
    | succ N =>
      cases N' with
      | zero => omega
      | succ N' =>
        obtain ⟨sd, b1, e1, e2, e3, e4, e5, hst, hl⟩ := id hn
        have hna : ¬ nI an ≤ nI j := by
          rw [nI_leI (by omega) (by omega)]
          omega
        rcases ns_0 (hst j (by omega)) with ⟨c1, c2⟩ | ⟨c1, c2⟩
        · obtain ⟨r, hr, w1, w2⟩ := wish_o hq (a := j) (by omega) hs h1 h2 hb
          have hz : (75 * sd + 74) % 65537 ≤ 65536 := by omega
          have x1 : f_X1_taker_L2 (nI (100 * s + 10 * f + b)) p (N + 1) (nI j) n = if nI r ≤ nI ((75 * sd + 74) % 65537 % 100) then f_X1_taker_L2 (nI (100 * s + 10 * f + b)) p N (nI (j + 1)) (n.1, nI ((75 * sd + 74) % 65537), n.2.2) else some (nI j, (n.1, nI ((75 * sd + 74) % 65537), n.2.2)) := by
            rw [f_X1_taker_L2, show p.2.2.2.2.2.2.1 = nI an from s1, if_neg hna, gA_in (vin (show j < 6 by omega) (by omega)), nI_clamp (show j < 2 ^ 31 by omega), if_pos c1, draw_x b1 e3]
            dsimp only [nm]
            rw [w1, Option.bind_some, f_X1_taker_J34, nI_1]
          have m1 : f_X12_taker_L2 (nI ((s * de + f - 1) * ba + b)) q (N' + 1) (nI j) v = if nI r ≤ nI ((75 * sd + 74) % 65537 % 100) then f_X12_taker_L2 (nI ((s * de + f - 1) * ba + b)) q N' (nI (j + 1)) (upd v 24 (nI ((75 * sd + 74) % 65537))) else some (nI j, upd v 24 (nI ((75 * sd + 74) % 65537))) := by
            rw [f_X12_taker_L2, show q.2.2.2.2.2.2.1 = nI an from s2, if_neg hna, i0, gA_in (vin (show j < 26 by omega) (by omega)), nI_clamp (show j < 2 ^ 31 by omega), if_pos c2]
            dsimp only [nm]
            rw [c24, e4, draw_l b1, upd_at, hund_i (by omega), w2, Option.bind_some, f_X12_taker_J64, nI_1]
          rw [x1, m1]
          by_cases cr : nI r ≤ nI ((75 * sd + 74) % 65537 % 100)
          · rw [if_pos cr, if_pos cr]
            obtain ⟨n', v', g1, g2, g3, g4⟩ := ih (j + 1) N N' _ _ (by omega) (by omega) (by omega) (nv_draw hn hz)
            exact ⟨n', v', g1, g2, fun k hk => (g3 k hk).trans (upd_no (by omega)), g4⟩
          · rw [if_neg cr, if_neg cr]
            exact ⟨_, _, nv_draw hn hz, rfl, fun k hk => upd_no (by omega), Or.inr ⟨j, by omega, rfl, rfl⟩⟩
        · have x1 : f_X1_taker_L2 (nI (100 * s + 10 * f + b)) p (N + 1) (nI j) n = f_X1_taker_L2 (nI (100 * s + 10 * f + b)) p N (nI (j + 1)) n := by
            rw [f_X1_taker_L2, show p.2.2.2.2.2.2.1 = nI an from s1, if_neg hna, gA_in (vin (show j < 6 by omega) (by omega)), nI_clamp (show j < 2 ^ 31 by omega), if_neg c1, f_X1_taker_J34, nI_1]
          have m1 : f_X12_taker_L2 (nI ((s * de + f - 1) * ba + b)) q (N' + 1) (nI j) v = f_X12_taker_L2 (nI ((s * de + f - 1) * ba + b)) q N' (nI (j + 1)) v := by
            rw [f_X12_taker_L2, show q.2.2.2.2.2.2.1 = nI an from s2, if_neg hna, i0, gA_in (vin (show j < 26 by omega) (by omega)), nI_clamp (show j < 2 ^ 31 by omega), if_neg c2, f_X12_taker_J64, nI_1]
          rw [x1, m1]
          exact ih (j + 1) N N' n v (by omega) (by omega) (by omega) hn
/-- a line that a taker drew in frees no other one -/
theorem tga_pt {σ0 σ : Nat → Option Nat} {k u : Nat} (hb : ∀ i s, i < 5 → σ0 i = some s → s < 8) (has : as ≤ 5) (hk : k < as) (hu : σ0 k = some u) (hσ : ∀ i, i < 5 → σ i = σ0 i ∨ (σ i = none ∧ gfr q as σ0 i = true)) : tga q σ k u as 0 = tga q σ0 k u as 0 := by
  apply Bool.eq_iff_iff.mpr
  rw [tga_iff, tga_iff]
  constructor
  · rintro ⟨i, h1, h2, h3⟩
    refine ⟨i, h1, h2, ?_⟩
    rcases hσ i (by omega) with e | ⟨e, -⟩
    · unfold tgo at h3 ⊢
      rw [← e]
      exact h3
    · unfold tgo at h3
      rw [e] at h3
      exact absurd h3 (by simp)
  · rintro ⟨i, h1, h2, h3⟩
    refine ⟨i, h1, h2, ?_⟩
    rcases hσ i (by omega) with e | ⟨-, e⟩
    · unfold tgo at h3 ⊢
      rw [e]
      exact h3
    · exfalso
      cases hw : σ0 i with
      | none =>
        unfold gfr at e
        rw [hw] at e
        exact absurd e (by simp)
      | some w =>
        unfold tgo at h3
        rw [hw] at h3
        dsimp only at h3
        rw [Bool.and_eq_true] at h3
        obtain ⟨h4, h5⟩ := h3
        have h6 : ¬ i = k := by
          intro z
          rw [decide_eq_true z] at h4
          exact absurd h4 (by decide)
        have h7 : tga q σ0 i w as 0 = true := by
          rw [tga_iff]
          refine ⟨k, Nat.zero_le k, by omega, ?_⟩
          unfold tgo
          rw [hu]
          dsimp only
          rw [decide_eq_false (fun z => h6 z.symm), tg_s (hb i w (by omega) hw) (hb k u (by omega) hu), h5]
          rfl
        unfold gfr at e
        rw [hw] at e
        dsimp only at e
        rw [h7] at e
        exact absurd e (by decide)
theorem lsp_cg {σ : Nat → Option Nat} {l v' : Nat → Int32} (h : LSp sp de ba σ l v) (hv : ∀ k, k < 5 → v' (18 + k) = v (18 + k)) : LSp sp de ba σ l v' := fun k hk => by
  rw [hv k hk]
  exact h k hk
theorem lsp_in {σ : Nat → Option Nat} {l : Nat → Int32} (h : LSp sp de ba σ l v) (j : Nat) : LSp sp de ba (fun i => if i = j then none else σ i) (upd l j (-1)) (upd v (18 + j) (-2)) := fun k hk => by
  by_cases c : k = j
  · rw [c]
    exact Or.inl ⟨if_pos rfl, upd_at, upd_at⟩
  · rw [upd_no c, upd_no (show ¬ 18 + k = 18 + j by omega)]
    dsimp only
    rw [if_neg c]
    exact h k hk
theorem sh6 : ∀ S, S < 64 → ∀ a, a < 6 → (nI S ||| ((1 : Int32) <<< (nI a &&& 31)) = nI (S ||| 2 ^ a)) := by decide +kernel
/-- askers by numbers -/
theorem pas_L (hq : PQ p q sp de ba as an bi cf ct) {σ0 : Nat → Option Nat} {B : Nat} (hB : B < 32) (hbt : ∀ i, i < as → B.testBit i = gfr q as σ0 i) (hs0 : ∀ i s, i < 5 → σ0 i = some s → s < 8) (hcl : f_X11_isClose (nI t) q = 0) : ∀ (m j N N' S : Nat) (n : TX4_n) (v : Nat → Int32) (y : TX1_y) (c : TX12_c) (σ : Nat → Option Nat), j + m = as → m < N → m < N' → S < 64 → NV sp de ba t n v → LSp sp de ba σ n.2.2.2.2.2.2 v → (∀ i, i < 5 → σ i = σ0 i ∨ (σ i = none ∧ gfr q as σ0 i = true)) → (∀ i, j ≤ i → i < 5 → σ i = σ0 i) → ∃ (r : Nat) (n' : TX4_n) (v' : Nat → Int32) (d : Int32), r < 64 ∧ f_X1_pass_L23 p (nI B) N (nI j) (nI S) y n = some (nI r, (y.1, y.2.1 + d, y.2.2), n') ∧ f_X12_goesBy_L4 q N' (nI j) (nI S) v c = some (nI r, v', (c.1 + d, c.2)) ∧ NV sp de ba (t + 1) n' v' := by
  obtain ⟨⟨-, -, -, s4⟩, ⟨-, -, -, d4⟩, -, ⟨-, -, -, b4⟩, ⟨s1, s2, s3⟩, ⟨-, -, a3⟩, -, -, -, hw, -⟩ := id hq
  intro m
  induction m with
  | zero =>
    intro j N N' S n v y c σ hj hN hN' hS hn hl hσ hσ2
    cases N with
    | zero => omega
    | succ N =>
      cases N' with
      | zero => omega
      | succ N' =>
        refine ⟨S, (n.1 + 1, n.2), upd v 23 (v 23 + 1), 0, hS, ?_, ?_, nv_next hn⟩
        · rw [f_X1_pass_L23, show p.2.2.2.2.2.1 = nI as from s1, if_pos ((nI_leI (by omega) (by omega)).mpr (by omega)), f_X1_pass_J86, Int32.add_zero] <;> rfl
        · rw [f_X12_goesBy_L4, show q.2.2.2.2.2.1 = nI as from s2, if_pos ((nI_leI (by omega) (by omega)).mpr (by omega)), f_X12_goesBy_J149, c23, Int32.add_zero] <;> rfl
  | succ m ih =>
    intro j N N' S n v y c σ hj hN hN' hS hn hl hσ hσ2
    cases N with
    | zero => omega
    | succ N =>
      cases N' with
      | zero => omega
      | succ N' =>
        obtain ⟨sd, b1, e1, e2, e3, e4, e5, hst, -⟩ := id hn
        have hna : ¬ nI as ≤ nI j := by
          rw [nI_leI (by omega) (by omega)]
          omega
        have hbit := (shb B hB j (by omega)).2
        rw [hbt j (by omega)] at hbit
        cases cg : gfr q as σ0 j with
        | false =>
          rw [cg, if_neg (show ¬ false = true by decide)] at hbit
          have x1 : f_X1_pass_L23 p (nI B) (N + 1) (nI j) (nI S) y n = f_X1_pass_L23 p (nI B) N (nI (j + 1)) (nI S) y n := by
            rw [f_X1_pass_L23, show p.2.2.2.2.2.1 = nI as from s1, if_neg hna, hbit, if_neg (show ¬ (0 : Int32) = 1 by decide), f_X1_pass_J59, if_pos rfl, f_X1_pass_J80, nI_1]
          have m1 : f_X12_goesBy_L4 q (N' + 1) (nI j) (nI S) v c = f_X12_goesBy_L4 q N' (nI (j + 1)) (nI S) v c := by
            rw [f_X12_goesBy_L4, show q.2.2.2.2.2.1 = nI as from s2, if_neg hna]
            dsimp only [nm]
            rw [c23, e2, hcl, if_pos rfl, i18, gA_in (vin (show 18 + j < 26 by omega) (by omega)), nI_clamp (show 18 + j < 2 ^ 31 by omega)]
            rcases hl j (by omega) with ⟨-, -, o2⟩ | ⟨s, f, b, o1, a1, a2, a3', a4, -, o2⟩
            · rw [if_pos o2, f_X12_goesBy_J143, nI_1]
            · have hu : σ0 j = some s := (hσ2 j (Nat.le_refl j) (by omega)).symm.trans o1
              have ht : tga q σ j s as 0 = true := by
                rw [tga_pt hs0 s3 (by omega) hu hσ]
                unfold gfr at cg
                rw [hu] at cg
                dsimp only at cg
                cases ctg : tga q σ0 j s as 0
                · rw [ctg] at cg
                  exact absurd cg (by decide)
                · rfl
              rw [if_neg (show ¬ v (18 + j) = -2 by rw [o2]; exact nI_m2 (by have := cd_b a1 a3' a4 s4 d4 b4; omega)), f_X12_isTangled, show f_X12_isTangled_L2 (nI j) v q FU 0 = _ from tgl_m hq hl (show j < as by omega) o1 as 0 FU (by omega) (by unfold FU; omega), Option.bind_some, ht, bI_1, if_neg one_ne, f_X12_goesBy_J143, nI_1]
          rw [x1, m1]
          exact ih (j + 1) N N' S n v y c σ (by omega) (by omega) (by omega) hS hn hl hσ (fun i hi => hσ2 i (by omega))
        | true =>
          rw [cg, if_pos rfl] at hbit
          rcases hl j (by omega) with ⟨o1, -, -⟩ | ⟨s, f, b, o1, a1, a2, a3', a4, o3, o2⟩
          · have hu : σ0 j = none := (hσ2 j (Nat.le_refl j) (by omega)).symm.trans o1
            unfold gfr at cg
            rw [hu] at cg
            exact absurd cg (by simp)
          have hu : σ0 j = some s := (hσ2 j (Nat.le_refl j) (by omega)).symm.trans o1
          have ht : tga q σ j s as 0 = false := by
            rw [tga_pt hs0 s3 (by omega) hu hσ]
            unfold gfr at cg
            rw [hu] at cg
            dsimp only at cg
            cases ctg : tga q σ0 j s as 0
            · rfl
            · rw [ctg] at cg
              exact absurd cg (by decide)
          obtain ⟨n', v', g1, g2, g3, g4⟩ := tk_L (t := t) hq a1 a2 a3' a4 an 0 FU FU n v (by omega) (by unfold FU; omega) (by unfold FU; omega) hn
          obtain ⟨-, -, f1, f2, -⟩ := id g1
          have hl' : LSp sp de ba σ n'.2.2.2.2.2.2 v' := by
            rw [g2]
            exact lsp_cg hl g3
          have xh : f_X1_pass_L23 p (nI B) (N + 1) (nI j) (nI S) y n = (f_X1_taker_L2 (nI (100 * s + 10 * f + b)) p FU (nI 0) n).bind fun (o52 : (Int32 × TX4_n)) => (f_X1_pass_J59 p (f_X1_pass_L23 p (nI B) N) (nI S) (nI j) y o52.1 o52.2) := by
            rw [f_X1_pass_L23, show p.2.2.2.2.2.1 = nI as from s1, if_neg hna, hbit, if_pos rfl, gA_in (vin (show j < 5 by omega) (by omega)), nI_clamp (show j < 2 ^ 31 by omega), o3]
            rfl
          have mh : ∀ (rr : Int32), f_X12_taker_L2 (nI ((s * de + f - 1) * ba + b)) q FU (nI 0) v = some (rr, v') → f_X12_goesBy_L4 q (N' + 1) (nI j) (nI S) v c = (if rr = (-2 : Int32) then (f_X12_goesBy_J143 (f_X12_goesBy_L4 q N') (nI j) (nI S) v' c) else (gA (nI (18 + j)) 26 (gA rr 6 (if (q.2.2.2.2.2.2.2.2.2.2.2.1 (rr).toNatClampNeg) = (2 : Int32) then (f_X12_goesBy_J143 (f_X12_goesBy_L4 q N') (nI j) (nI S) (upd v' (18 + j) (-2 : Int32)) ((c.1 + (1 : Int32)), c.2)) else (gA ((0 : Int32) + rr) 26 (gA ((6 : Int32) + rr) 26 (gA ((12 : Int32) + rr) 26 (f_X12_goesBy_J143 (f_X12_goesBy_L4 q N') (nI j) (nI S ||| ((1 : Int32) <<< (rr &&& 31))) (upd (upd (upd (upd v' (18 + j) (-2 : Int32)) (((0 : Int32) + rr)).toNatClampNeg (1 : Int32)) (((6 : Int32) + rr)).toNatClampNeg ((upd (upd v' (18 + j) (-2 : Int32)) (((0 : Int32) + rr)).toNatClampNeg (1 : Int32)) 23)) (((12 : Int32) + rr)).toNatClampNeg (nI j)) c)))))))) := by
            intro rr hrr
            rw [f_X12_goesBy_L4, show q.2.2.2.2.2.1 = nI as from s2, if_neg hna]
            dsimp only [nm]
            rw [c23, e2, hcl, if_pos rfl, i18, gA_in (vin (show 18 + j < 26 by omega) (by omega)), nI_clamp (show 18 + j < 2 ^ 31 by omega), if_neg (show ¬ v (18 + j) = -2 by rw [o2]; exact nI_m2 (by have := cd_b a1 a3' a4 s4 d4 b4; omega)), f_X12_isTangled, show f_X12_isTangled_L2 (nI j) v q FU 0 = _ from tgl_m hq hl (show j < as by omega) o1 as 0 FU (by omega) (by unfold FU; omega), Option.bind_some, ht, bI_0, if_pos rfl, gA_in (vin (show 18 + j < 26 by omega) (by omega)), o2, f_X12_taker, show f_X12_taker_L2 (nI ((s * de + f - 1) * ba + b)) q FU 0 v = _ from hrr, Option.bind_some]
          rcases g4 with ⟨x1, m1⟩ | ⟨a, ha, x1, m1⟩
          · rw [xh, x1, Option.bind_some, mh _ m1, if_pos rfl]
            dsimp only
            rw [f_X1_pass_J59, if_pos rfl, f_X1_pass_J80, f_X12_goesBy_J143, nI_1]
            exact ih (j + 1) N N' S n' v' y c σ (by omega) (by omega) (by omega) hS g1 hl' hσ (fun i hi => hσ2 i (by omega))
          · have ek : p.2.2.2.2.2.2.2.2.2.2.1 a = q.2.2.2.2.2.2.2.2.2.2.2.1 a := (hw a ha).1.1
            have hσ' : ∀ i, i < 5 → (fun i => if i = j then none else σ i) i = σ0 i ∨ ((fun i => if i = j then none else σ i) i = none ∧ gfr q as σ0 i = true) := fun i hi => by
              dsimp only
              by_cases c1 : i = j
              · rw [if_pos c1, c1]
                exact Or.inr ⟨rfl, cg⟩
              · rw [if_neg c1]
                exact hσ i hi
            have hσ2' : ∀ i, j + 1 ≤ i → i < 5 → (fun i => if i = j then none else σ i) i = σ0 i := fun i hi hi5 => by
              dsimp only
              rw [if_neg (show ¬ i = j by omega)]
              exact hσ2 i (by omega) hi5
            have hnl := nv_line g1 (show j < 5 by omega) (x := -1) (y := -2) (Or.inl ⟨rfl, rfl⟩)
            have hll := lsp_in hl' j
            rw [xh, x1, Option.bind_some, mh _ m1, if_neg (show ¬ nI a = -2 from nI_m2 (by omega)), gA_in (vin (show 18 + j < 26 by omega) (by omega)), gA_in (vin (show a < 6 by omega) (by omega)), nI_clamp (show a < 2 ^ 31 by omega)]
            dsimp only
            rw [f_X1_pass_J59, if_neg (show ¬ nI a = -1 from nI_m1 (by omega)), f_X1_taken, gA_in (vin (show j < 5 by omega) (by omega)), gA_in (vin (show a < 6 by omega) (by omega)), nI_clamp (show a < 2 ^ 31 by omega), nI_clamp (show j < 2 ^ 31 by omega), ek]
            by_cases ck : q.2.2.2.2.2.2.2.2.2.2.2.1 a = 2
            · rw [if_pos ck, if_pos ck, Option.bind_some, f_X1_pass_J80, f_X12_goesBy_J143, nI_1, Int32.or_zero]
              obtain ⟨r, n2, v2, d, r1, r2, r3, r4⟩ := ih (j + 1) N N' S _ _ (y.1, y.2.1 + 1, y.2.2) (c.1 + 1, c.2) _ (by omega) (by omega) (by omega) hS hnl hll hσ' hσ2'
              refine ⟨r, n2, v2, 1 + d, r1, ?_, ?_, r4⟩
              · rw [← Int32.add_assoc]
                exact r2
              · rw [← Int32.add_assoc]
                exact r3
            · rw [if_neg ck, if_neg ck, i0, i6, i12, gA_in (vin (show a < 26 by omega) (by omega)), gA_in (vin (show 6 + a < 26 by omega) (by omega)), gA_in (vin (show 12 + a < 26 by omega) (by omega)), nI_clamp (show a < 2 ^ 31 by omega), nI_clamp (show 6 + a < 2 ^ 31 by omega), nI_clamp (show 12 + a < 2 ^ 31 by omega), upd_no (show ¬ 23 = a by omega), upd_no (show ¬ 23 = 18 + j by omega), f2, sh6 S hS a (by omega), f_X4_land, gA_in (vin (show a < 6 by omega) (by omega)), gA_in (vin (show a < 6 by omega) (by omega)), gA_in (vin (show a < 6 by omega) (by omega)), nI_clamp (show a < 2 ^ 31 by omega), Option.bind_some, Option.bind_some, f_X1_pass_J80, f_X12_goesBy_J143, nI_1, sh6 S hS a (by omega)]
              exact ih (j + 1) N N' (S ||| 2 ^ a) _ _ y c _ (by omega) (by omega) (by omega) (Nat.or_lt_two_pow (n := 6) hS (Nat.pow_lt_pow_right (by omega) (show a < 6 by omega))) (nv_land hnl (show a < 6 by omega) (show j < 5 by omega)) (lsp_cg hll (fun k hk => by rw [upd_no (show ¬ 18 + k = 12 + a by omega), upd_no (show ¬ 18 + k = 6 + a by omega), upd_no (show ¬ 18 + k = a by omega)])) hσ' hσ2'
/-- a day -/
theorem pas_eq (hq : PQ p q sp de ba as an bi cf ct) (hn : NV sp de ba t n v) (y : TX1_y) (c : TX12_c) : ∃ (r : Nat) (n' : TX4_n) (v' : Nat → Int32) (d : Int32), r < 64 ∧ f_X1_pass y p n = some (nI r, (y.1, y.2.1 + d, y.2.2), n') ∧ f_X12_goesBy v c q = some (nI r, v', (c.1 + d, c.2)) ∧ NV sp de ba (t + 1) n' v' := by
  obtain ⟨⟨-, -, -, s4⟩, -, -, -, ⟨s1, s2, s3⟩, -⟩ := id hq
  obtain ⟨sd, b1, e1, e2, e3, e4, e5, hst, hl⟩ := id hn
  unfold f_X1_pass f_X12_goesBy
  dsimp only [nm]
  rw [e1, isCl hq]
  by_cases cl : f_X11_isClose (nI t) q = 0
  · obtain ⟨σ0, hl0⟩ := ls_of hl
    obtain ⟨B, hB, ub, hbt⟩ := unt_L hq hl0 as 0 FU 0 (by omega) (by unfold FU; omega) (by omega) (fun i hi => absurd hi (by omega)) (fun i _ => Nat.zero_testBit i)
    have hs0 : ∀ i s, i < 5 → σ0 i = some s → s < 8 := fun i s hi he => by
      rcases hl0 i hi with ⟨o1, -⟩ | ⟨s', f, b, o1, a1, -⟩
      · rw [o1] at he
        exact absurd he (by simp)
      · rw [o1] at he
        have := Option.some.inj he
        omega
    rw [if_pos cl, f_X1_untangled, show f_X1_untangled_L4 p n FU 0 0 = _ from ub, Option.bind_some]
    exact pas_L hq hB hbt hs0 cl as 0 FU FU 0 n v y c σ0 (by omega) (by unfold FU; omega) (by unfold FU; omega) (by omega) hn hl0 (fun i _ => Or.inl rfl) (fun i _ _ => rfl)
  · rw [if_neg cl, f_X1_pass_J86]
    refine ⟨0, (n.1 + 1, n.2), upd v 23 (v 23 + 1), 0, by omega, ?_, ?_, nv_next hn⟩
    · rw [Int32.add_zero]
      rfl
    · have em : f_X12_goesBy_J149 0 c v = some (nI 0, upd v 23 (v 23 + 1), (c.1 + 0, c.2)) := by
        rw [f_X12_goesBy_J149, c23, Int32.add_zero]
        rfl
      show f_X12_goesBy_L4 q (999999 + 1) 0 0 v c = _
      rw [f_X12_goesBy_L4, em]
      by_cases ca : q.2.2.2.2.2.1 ≤ 0
      · rw [if_pos ca]
      · rw [if_neg ca]
        dsimp only [nm]
        rw [c23, e2, if_neg cl]
variable {h : TX2_h} {K : Nat → TX4_n} {g : TX12_h}
theorem ac_day (hq : PQ p q sp de ba as an bi cf ct) (hn : NV sp de ba t n v) (ht : t ≤ 999) (hh : HV sp de ba h K g) (x : TX10_x) (y : TX1_y) (tt : TX12_t) (c : TX12_c) : ∃ (r tr : Int32) (kn n' : TX4_n) (h' : TX2_h) (y' : TX1_y) (v' : Nat → Int32) (g' : TX12_h) (c' : TX12_c) (t' : Nat), f_X10_day x (K (kpI h)) p n h y = some (r, (tr, x.2), kn, n', h', y') ∧ f_X12_day tt v g c q = some (r, (0, tr, -1), v', g', c') ∧ t' ≤ 999 ∧ NV sp de ba t' n' v' ∧ HV sp de ba h' (updN K (kpI h) kn) g' := by
  obtain ⟨sd, b1, e1, e2, e3, e4, e5, hst, hl⟩ := id hn
  rw [f_X10_day, f_X12_day]
  dsimp only [nm]
  rw [pt_0 hq, if_pos rfl, c23, e1, e2]
  by_cases ct9 : t = 999
  · rw [if_neg (show ¬ nI t < (999 : Int32) by rw [ct9]; decide), if_pos (show nI t = (999 : Int32) by rw [ct9]; decide), f_X10_day_J28]
    dsimp only [nm]
    rw [ref_n (show ¬ (3 : Int32) = 0 by decide), if_neg one_ne]
    exact ⟨-1, 3, _, n, h, y, v, g, c, t, rfl, rfl, ht, hn, by rw [upK]; exact hh⟩
  · rw [if_pos (show nI t < (999 : Int32) by rw [show (999 : Int32) = nI 999 from rfl, nI_ltI (by omega) (by omega)]; omega), if_neg (show ¬ nI t = (999 : Int32) from fun z => ct9 (nI_ij (b := 999) (by omega) (by omega) z)), f_X10_day_J27, f_X10_day_J28]
    dsimp only [nm]
    obtain ⟨h', kn, g', k1', k2', k3'⟩ := keep_hv hn ht hh
    obtain ⟨r, n', v', d, -, r2, r3, r4⟩ := pas_eq hq hn y c
    rw [ref_0, if_pos rfl, k1', k2', Option.bind_some, Option.bind_some, r2, r3, Option.bind_some, Option.bind_some]
    exact ⟨nI r, 0, kn, n', h', _, v', g', _, t + 1, rfl, rfl, by omega, r4, k3'⟩
end GOES
