/-! acts: the same on both sides -/
theorem upK (K : Nat → TX4_n) (i : Nat) : updN K i (K i) = K := by
  funext j
  unfold updN
  by_cases c : j = i
  · rw [if_pos c, c]
  · rw [if_neg c]
theorem cd_b {sp de ba s f b : Nat} (hs : s < sp) (hf : f ≤ de) (hb : b < ba) (h1 : sp ≤ 8) (h2 : de ≤ 9) (h3 : ba ≤ 4) : (s * de + f - 1) * ba + b < 1000 := by
  have e1 : s * de ≤ 8 * 9 := Nat.mul_le_mul (by omega) h2
  have e2 : (s * de + f - 1) * ba ≤ 81 * 4 := Nat.mul_le_mul (by omega) h3
  omega
theorem nl_cs {sp de ba : Nat} {x y : Int32} (h : NL sp de ba x y) (h1 : sp ≤ 8) (h2 : de ≤ 9) (h3 : ba ≤ 4) : (x = -1 ∧ y = -2) ∨ (¬ x = -1 ∧ ¬ y = -2 ∧ ∃ s f b : Nat, s < sp ∧ 1 ≤ f ∧ f ≤ de ∧ b < ba ∧ x = nI (100 * s + 10 * f + b) ∧ y = nI ((s * de + f - 1) * ba + b)) := by
  rcases h with h | ⟨s, f, b, a1, a2, a3, a4, e1, e2⟩
  · exact Or.inl h
  · have hb := cd_b a1 a3 a4 h1 h2 h3
    exact Or.inr ⟨by rw [e1]; exact nI_m1 (by omega), by rw [e2]; exact nI_m2 (by omega), s, f, b, a1, a2, a3, a4, e1, e2⟩
section ACTS
variable {p : TX6_p} {q : TX11_q} {sp de ba as an bi cf ct t : Nat} {n : TX4_n} {v : Nat → Int32} {h : TX2_h} {K : Nat → TX4_n} {g : TX12_h}
theorem isCl (hq : PQ p q sp de ba as an bi cf ct) (d : Int32) : f_X6_isClose d p = f_X11_isClose d q := by
  obtain ⟨-, -, ⟨c1, c2, c3, c4, c5, c6⟩, -⟩ := id hq
  unfold f_X6_isClose f_X11_isClose nm f_X10_within
  rw [show p.2.2.1 = nI cf from c1, show q.2.2.1 = nI cf from c2, show p.2.2.2.1 = nI ct from c3, show q.2.2.2.1 = nI ct from c4]
theorem mq_n (hq : PQ p q sp de ba as an bi cf ct) {s f b : Nat} (hs : s < sp) (hf1 : 1 ≤ f) (hf : f ≤ de) (hb : b < ba) : f_X12_question (nI s) (nI f) (nI b) q = nI ((s * de + f - 1) * ba + b) := by
  obtain ⟨⟨-, -, -, s4⟩, ⟨d1, d2, d3, d4⟩, -, ⟨b1, b2, b3, b4⟩, -⟩ := id hq
  have e1 : s * de ≤ 8 * 9 := Nat.mul_le_mul (by omega) d4
  unfold f_X12_question
  dsimp only [nm]
  rw [show q.2.1 = nI de from d2, show q.2.2.2.2.1 = nI ba from b2, nI_mul, nI_add, nI_sub1 (by omega) (by omega), nI_mul, nI_add]
theorem nl_up {l w : Nat → Int32} (hl : ∀ k, k < 5 → NL sp de ba (l k) (w (18 + k))) {j : Nat} {x y : Int32} (hx : NL sp de ba x y) : ∀ k, k < 5 → NL sp de ba (upd l j x k) (upd w (18 + j) y (18 + k)) := by
  intro k hk
  by_cases c : k = j
  · subst c
    rw [upd_at, upd_at]
    exact hx
  · rw [upd_no c, upd_no (by omega)]
    exact hl k hk
theorem nv_line (hn : NV sp de ba t n v) {j : Nat} (hj : j < 5) {x y : Int32} (hx : NL sp de ba x y) : NV sp de ba t (n.1, n.2.1, n.2.2.1, n.2.2.2.1, n.2.2.2.2.1, n.2.2.2.2.2.1, upd n.2.2.2.2.2.2 j x) (upd v (18 + j) y) := by
  obtain ⟨sd, b1, e1, e2, e3, e4, e5, hs, hl⟩ := hn
  refine ⟨sd, b1, e1, ?_, e3, ?_, ?_, fun a ha => ?_, nl_up hl hx⟩
  · rw [upd_no (by omega)]
    exact e2
  · rw [upd_no (by omega)]
    exact e4
  · rw [upd_no (by omega)]
    exact e5
  · have := hs a ha
    unfold NS at this ⊢
    rw [upd_no (show ¬ a = 18 + j by omega), upd_no (show ¬ 6 + a = 18 + j by omega), upd_no (show ¬ 12 + a = 18 + j by omega)]
    exact this
/-- LET -/
theorem ac_let (hq : PQ p q sp de ba as an bi cf ct) (hn : NV sp de ba t n v) (ht : t ≤ 999) (hh : HV sp de ba h K g) (k1 k2 k3 k4 : Int32) (x : TX10_x) (tt : TX12_t) : ∃ (r tr : Int32) (kn n' : TX4_n) (h' : TX2_h) (v' : Nat → Int32) (g' : TX12_h), f_X10_let k1 k2 k3 k4 x (K (kpI h)) p n h = some (r, (tr, x.2), kn, n', h') ∧ f_X12_let k1 k2 k3 k4 tt v g q = some (r, (0, tr, -1), v', g') ∧ NV sp de ba t n' v' ∧ HV sp de ba h' (updN K (kpI h) kn) g' := by
  have bad : ∀ tr : Int32, ∃ (r tr' : Int32) (kn n' : TX4_n) (h' : TX2_h) (v' : Nat → Int32) (g' : TX12_h), (some ((0 : Int32), (tr, x.2), K (kpI h), n, h) : Option (Int32 × TX10_x × TX4_n × TX4_n × TX2_h)) = some (r, (tr', x.2), kn, n', h') ∧ (some ((0 : Int32), (0, tr, -1), v, g) : Option (Int32 × TX12_t × TX12_v × TX12_h)) = some (r, (0, tr', -1), v', g') ∧ NV sp de ba t n' v' ∧ HV sp de ba h' (updN K (kpI h) kn) g' := fun tr => ⟨0, tr, _, n, h, v, g, rfl, rfl, hn, by rw [upK]; exact hh⟩
  obtain ⟨⟨-, -, -, s4⟩, ⟨-, -, -, d4⟩, -, ⟨-, -, -, b4⟩, ⟨-, -, as5⟩, -⟩ := id hq
  rw [f_X10_let, f_X12_let, f_X10_letTrouble, f_X10_askerTrouble]
  dsimp only [nm]
  by_cases c1 : inN k1 as
  · obtain ⟨e1, e2⟩ := (hasAs hq k1).1 c1
    rw [e1, e2, if_neg one_ne, if_pos rfl]
    rcases qt_eq hq k2 k3 k4 with ⟨g1, g2⟩ | ⟨g1, g2⟩ | ⟨g1, g2, g3, g4, g5⟩
    · rw [g1, g2, f_X10_letTrouble_J22, if_neg one_ne, f_X10_letTrouble_J59, Option.bind_some, ref_n one_ne, if_neg one_ne, if_neg (show ¬ (1 : Int32) ≤ 0 by decide)]
      exact bad 1
    · rw [g1, g2, f_X10_letTrouble_J22, if_neg (show ¬ (2 : Int32) = 0 by decide), f_X10_letTrouble_J59, Option.bind_some, ref_n (show ¬ (2 : Int32) = 0 by decide), if_neg one_ne, if_neg (show ¬ (2 : Int32) ≤ 0 by decide)]
      exact bad 2
    · obtain ⟨a, ha, rfl⟩ := inN_of c1
      obtain ⟨s, hs, rfl⟩ := inN_of g3
      obtain ⟨f, hf1, hf, rfl⟩ := inF_of g4
      obtain ⟨b, hb, rfl⟩ := inN_of g5
      obtain ⟨sd, b1, en, ev, e3, e4, e5, hst, hl⟩ := id hn
      rw [g1, g2, f_X10_letTrouble_J22, if_pos rfl, gA_in (vin (show a < 5 by omega) (by omega)), nI_clamp (show a < 2 ^ 31 by omega), if_pos (show (0 : Int32) ≤ 0 by decide), i18, gA_in (vin (show 18 + a < 26 by omega) (by omega)), nI_clamp (show 18 + a < 2 ^ 31 by omega), c23, ev, en, isCl hq]
      rcases nl_cs (hl a (by omega)) s4 d4 b4 with ⟨z1, z2⟩ | ⟨z1, z2, -⟩
      · rw [if_pos z1, if_pos z2]
        dsimp only [nm]
        by_cases cc : f_X11_isClose (nI t) q = 0
        · rw [if_pos cc, if_pos cc, f_X10_letTrouble_J59, Option.bind_some, ref_0, if_pos rfl]
          obtain ⟨h', kn, g', k1', k2', k3'⟩ := keep_hv hn ht hh
          rw [k1', k2', Option.bind_some, Option.bind_some, gA_in (vin (show a < 5 by omega) (by omega)), gA_in (vin (show 18 + a < 26 by omega) (by omega)), mq_n hq hs hf1 hf hb, qu_n, ← en]
          exact ⟨1, 0, kn, _, h', _, g', rfl, rfl, nv_line hn (show a < 5 by omega) (Or.inr ⟨s, f, b, hs, hf1, hf, hb, rfl, rfl⟩), k3'⟩
        · rw [if_neg cc, if_neg cc, Option.bind_some, ref_n (show ¬ (5 : Int32) = 0 by decide), if_neg one_ne]
          exact bad 5
      · rw [if_neg z1, if_neg z2, Option.bind_some, ref_n (show ¬ (5 : Int32) = 0 by decide), if_neg one_ne]
        exact bad 5
  · obtain ⟨e1, e2⟩ := (hasAs hq k1).2 c1
    rw [e1, e2, if_pos rfl, if_neg one_ne, f_X10_letTrouble_J22, if_neg one_ne, f_X10_letTrouble_J59, Option.bind_some, ref_n one_ne, if_neg one_ne, f_X12_refusesQuestion, if_pos rfl, if_neg (show ¬ (1 : Int32) ≤ 0 by decide)]
    exact bad 1
/-- DRAW in -/
theorem ac_drawIn (hq : PQ p q sp de ba as an bi cf ct) (hn : NV sp de ba t n v) (ht : t ≤ 999) (hh : HV sp de ba h K g) (k1 : Int32) (x : TX10_x) (tt : TX12_t) : ∃ (r tr : Int32) (kn n' : TX4_n) (h' : TX2_h) (v' : Nat → Int32) (g' : TX12_h), f_X10_drawIn k1 x (K (kpI h)) p n h = some (r, (tr, x.2), kn, n', h') ∧ f_X12_drawIn k1 tt v g q = some (r, (0, tr, -1), v', g') ∧ NV sp de ba t n' v' ∧ HV sp de ba h' (updN K (kpI h) kn) g' := by
  obtain ⟨⟨-, -, -, s4⟩, ⟨-, -, -, d4⟩, -, ⟨-, -, -, b4⟩, ⟨-, -, as5⟩, -⟩ := id hq
  rw [f_X10_drawIn, f_X12_drawIn, f_X10_askerTrouble]
  dsimp only [nm]
  by_cases c1 : inN k1 as
  · obtain ⟨e1, e2⟩ := (hasAs hq k1).1 c1
    obtain ⟨a, ha, rfl⟩ := inN_of c1
    obtain ⟨sd, b1, en, ev, e3, e4, e5, hst, hl⟩ := id hn
    rw [e1, e2, if_neg one_ne, if_pos rfl, if_neg one_ne, gA_in (vin (show a < 5 by omega) (by omega)), nI_clamp (show a < 2 ^ 31 by omega), i18, gA_in (vin (show 18 + a < 26 by omega) (by omega)), nI_clamp (show 18 + a < 2 ^ 31 by omega)]
    rcases nl_cs (hl a (by omega)) s4 d4 b4 with ⟨z1, z2⟩ | ⟨z1, z2, -⟩
    · rw [if_pos z1, if_pos z2, f_X10_drawIn_J29]
      dsimp only [nm]
      rw [ref_n (show ¬ (5 : Int32) = 0 by decide), if_neg one_ne]
      exact ⟨0, 5, _, n, h, v, g, rfl, rfl, hn, by rw [upK]; exact hh⟩
    · rw [if_neg z1, if_neg z2, f_X10_drawIn_J28, f_X10_drawIn_J29]
      dsimp only [nm]
      obtain ⟨h', kn, g', k1', k2', k3'⟩ := keep_hv hn ht hh
      rw [ref_0, if_pos rfl, k1', k2', Option.bind_some, Option.bind_some, gA_in (vin (show a < 5 by omega) (by omega)), gA_in (vin (show 18 + a < 26 by omega) (by omega)), nI_clamp (show a < 2 ^ 31 by omega)]
      exact ⟨1, 0, kn, _, h', _, g', rfl, rfl, nv_line hn (show a < 5 by omega) (Or.inl ⟨rfl, rfl⟩), k3'⟩
  · obtain ⟨e1, e2⟩ := (hasAs hq k1).2 c1
    rw [e1, e2, if_pos rfl, if_neg one_ne, if_pos rfl, f_X10_drawIn_J28, f_X10_drawIn_J29]
    dsimp only [nm]
    rw [ref_n one_ne, if_neg one_ne]
    exact ⟨0, 1, _, n, h, v, g, rfl, rfl, hn, by rw [upK]; exact hh⟩
theorem keeps_so (hq : PQ p q sp de ba as an bi cf ct) {a : Nat} (ha : a < an) (l d : Int32) : ∃ r, f_X12_keeps (nI a) l d q = some r := by
  obtain ⟨-, -, -, -, -, ⟨n1, n2, n3⟩, -⟩ := id hq
  have hv : vp_in (nI a) 6 := vin (by omega) (by omega)
  simp only [f_X12_keeps, nm, gA_in hv]
  repeat' split
  all_goals exact ⟨_, rfl⟩
/-- what an answer is worth on a day -/
theorem worth_on (hq : PQ p q sp de ba as an bi cf ct) {a : Nat} (ha : a < an) {d u : Nat} (hd : d ≤ u) (hu : u ≤ 2000) : ∃ r, f_X6_worthAfter (nI a) (nI u - nI d) p = some r ∧ f_X12_keeps (nI a) (nI d) (nI u) q = some r := by
  have e : (nI u - nI d).toInt = (u : Int) - (d : Int) := by rw [isub_t (by rw [nI_toInt (by omega), nI_toInt (by omega)]; omega) (by rw [nI_toInt (by omega), nI_toInt (by omega)]; omega), nI_toInt (by omega), nI_toInt (by omega)]
  obtain ⟨r, hr⟩ := keeps_so hq ha (nI d) (nI u)
  exact ⟨r, by rw [keeps_eq hq ha (by rw [e]; omega) (by rw [e]; omega), hr], hr⟩
/-- SELL -/
theorem ac_sell (hq : PQ p q sp de ba as an bi cf ct) (hn : NV sp de ba t n v) (ht : t ≤ 999) (hh : HV sp de ba h K g) (k1 : Int32) (x : TX10_x) (tt : TX12_t) : ∃ (r tr : Int32) (kn n' : TX4_n) (h' : TX2_h) (v' : Nat → Int32) (g' : TX12_h), f_X10_sell k1 x (K (kpI h)) p n h = some (r, (tr, x.2), kn, n', h') ∧ f_X12_sell k1 tt v g q = some (r, (0, tr, -1), v', g') ∧ NV sp de ba t n' v' ∧ HV sp de ba h' (updN K (kpI h) kn) g' := by
  obtain ⟨-, -, -, -, -, ⟨-, -, an6⟩, -⟩ := id hq
  rw [f_X10_sell, f_X12_sell, f_X10_answerTrouble]
  dsimp only [nm]
  by_cases c1 : inN k1 an
  · obtain ⟨e1, e2⟩ := (hasAn hq k1).1 c1
    obtain ⟨a, ha, rfl⟩ := inN_of c1
    obtain ⟨sd, b1, en, ev, e3, e4, e5, hst, hl⟩ := id hn
    have hv6 : vp_in (nI a) 6 := vin (by omega) (by omega)
    have hv26 : vp_in (nI a) 26 := vin (by omega) (by omega)
    rw [e1, e2, if_neg one_ne, if_pos rfl, if_neg one_ne, gA_in hv6, nI_clamp (show a < 2 ^ 31 by omega), i0, gA_in hv26, nI_clamp (show a < 2 ^ 31 by omega)]
    have no : ∀ {y z : Int32}, ¬ y = 1 → ¬ z = 1 → ∃ (r tr : Int32) (kn n' : TX4_n) (h' : TX2_h) (v' : Nat → Int32) (g' : TX12_h), (some ((-1 : Int32), (5, x.2), K (kpI h), n, h) : Option (Int32 × TX10_x × TX4_n × TX4_n × TX2_h)) = some (r, (tr, x.2), kn, n', h') ∧ (some ((-1 : Int32), (0, 5, -1), v, g) : Option (Int32 × TX12_t × TX12_v × TX12_h)) = some (r, (0, tr, -1), v', g') ∧ NV sp de ba t n' v' ∧ HV sp de ba h' (updN K (kpI h) kn) g' := fun _ _ => ⟨-1, 5, _, n, h, v, g, rfl, rfl, hn, by rw [upK]; exact hh⟩
    rcases hst a (by omega) with ⟨z1, z2, -⟩ | ⟨z0, z1, d, k, hd, hk, y1, y2, y3, y4⟩
    · rw [z1, z2, if_neg (show ¬ (0 : Int32) = 1 by decide), if_neg (show ¬ (0 : Int32) = 1 by decide), f_X10_sell_J29]
      dsimp only [nm]
      rw [ref_n (show ¬ (5 : Int32) = 0 by decide), if_neg one_ne]
      exact no (show ¬ (0 : Int32) = 1 by decide) (show ¬ (0 : Int32) = 1 by decide)
    · rw [z1]
      rcases z0 with z0 | z0
      · rw [z0, if_pos rfl, if_pos rfl, f_X10_sell_J28, f_X10_sell_J29]
        dsimp only [nm]
        obtain ⟨h', kn, g', k1', k2', k3'⟩ := keep_hv hn ht hh
        obtain ⟨r, w1, w2⟩ := worth_on hq ha hd (show t ≤ 2000 by omega)
        have hv6a : vp_in (nI (6 + a)) 26 := vin (by omega) (by omega)
        have u25 : upd v a 2 25 = v 25 := upd_no (by omega)
        have wn : ∀ y : Int32, f_X12_worthNow (nI a) (upd (upd v a 2) 25 y) q = some r := fun y => by
          rw [f_X12_worthNow, i6, gA_in hv6a, nI_clamp (show 6 + a < 2 ^ 31 by omega), c23, upd_no (show ¬ 6 + a = 25 by omega), upd_no (show ¬ 6 + a = a by omega), upd_no (show ¬ 23 = 25 by omega), upd_no (show ¬ 23 = a by omega), y2, ev, w2, Option.bind_some]
        have wn0 : f_X12_worthNow (nI a) (upd v a 2) q = some r := by
          rw [f_X12_worthNow, i6, gA_in hv6a, nI_clamp (show 6 + a < 2 ^ 31 by omega), c23, upd_no (show ¬ 6 + a = a by omega), upd_no (show ¬ 23 = a by omega), y2, ev, w2, Option.bind_some]
        rw [ref_0, if_pos rfl, k1', k2', Option.bind_some, Option.bind_some, f_X3_worthOn, gA_in hv6, nI_clamp (show a < 2 ^ 31 by omega), y1, en, w1, Option.bind_some, Option.bind_some, gA_in hv6, gA_in hv26, c25, u25, wn0, Option.bind_some, wn, Option.bind_some]
        refine ⟨r, 0, kn, _, h', _, g', rfl, rfl, ⟨sd, b1, rfl, ?_, e3, ?_, ?_, fun j hj => ?_, fun j hj => ?_⟩, k3'⟩
        · rw [upd_no (by omega), upd_no (by omega)]
          exact ev
        · rw [upd_no (by omega), upd_no (by omega)]
          exact e4
        · rw [upd_at]
          show n.2.2.1 + r = v 25 + r
          rw [e5]
        · have hj' := hst j hj
          unfold NS at hj' ⊢
          rw [upd_no (show ¬ j = 25 by omega), upd_no (show ¬ 6 + j = 25 by omega), upd_no (show ¬ 12 + j = 25 by omega), upd_no (show ¬ 6 + j = a by omega), upd_no (show ¬ 12 + j = a by omega)]
          by_cases c : j = a
          · subst c
            refine Or.inr ⟨Or.inr upd_at, ?_, d, k, hd, hk, y1, y2, y3, y4⟩
            show upd n.2.2.2.1 j 2 j = upd v j 2 j
            rw [upd_at, upd_at]
          · rw [upd_no c]
            rcases hj' with ⟨q1, q2⟩ | ⟨q0, q1, q2⟩
            · exact Or.inl ⟨(upd_no c).trans q1, q2⟩
            · exact Or.inr ⟨q0, (upd_no c).trans q1, q2⟩
        · rw [upd_no (by omega), upd_no (by omega)]
          exact hl j hj
      · rw [z0, if_neg (show ¬ (2 : Int32) = 1 by decide), if_neg (show ¬ (2 : Int32) = 1 by decide), f_X10_sell_J29]
        dsimp only [nm]
        rw [ref_n (show ¬ (5 : Int32) = 0 by decide), if_neg one_ne]
        exact no (show ¬ (0 : Int32) = 1 by decide) (show ¬ (0 : Int32) = 1 by decide)
  · obtain ⟨e1, e2⟩ := (hasAn hq k1).2 c1
    rw [e1, e2, if_pos rfl, if_neg one_ne, if_pos rfl, f_X10_sell_J28, f_X10_sell_J29]
    dsimp only [nm]
    rw [ref_n one_ne, if_neg one_ne]
    exact ⟨-1, 1, _, n, h, v, g, rfl, rfl, hn, by rw [upK]; exact hh⟩
/-- SEED -/
theorem ac_seed (hq : PQ p q sp de ba as an bi cf ct) (hn : NV sp de ba t n v) (k1 : Int32) (x : TX10_x) (tt : TX12_t) : ∃ (r tr : Int32) (n' : TX4_n) (v' : Nat → Int32), f_X10_seed k1 x p n = (r, (tr, x.2), n') ∧ f_X12_seed k1 tt v = (r, (0, tr, -1), v') ∧ NV sp de ba t n' v' := by
  rw [f_X10_seed, f_X12_seed]
  dsimp only [nm]
  rw [in_wi]
  rcases w01 k1 0 65536 with e | e
  · rw [e, nt_0 hq, ref_n (show ¬ (2 : Int32) = 0 by decide), if_neg one_ne, if_pos rfl]
    exact ⟨0, 2, n, v, rfl, rfl, hn⟩
  · rw [e, nt_1 hq, ref_0, if_pos rfl, if_neg one_ne]
    obtain ⟨b1, b2⟩ := wi_b (a := 0) (b := 65536) (by omega) (by omega) e
    obtain ⟨z, hz, rfl⟩ := inn_of (show 0 ≤ k1.toInt by omega)
    rw [nI_toInt hz] at b2
    refine ⟨1, 0, _, _, rfl, rfl, ?_⟩
    obtain ⟨sd, b1, e1, e2, e3, e4, e5, hs, hl⟩ := hn
    rw [c24]
    refine ⟨z, by omega, e1, ?_, rfl, upd_at, ?_, fun a ha => ?_, fun k hk => ?_⟩
    · rw [upd_no (by omega)]
      exact e2
    · rw [upd_no (by omega)]
      exact e5
    · have := hs a ha
      unfold NS at this ⊢
      rw [upd_no (show ¬ a = 24 by omega), upd_no (show ¬ 6 + a = 24 by omega), upd_no (show ¬ 12 + a = 24 by omega)]
      exact this
    · rw [upd_no (by omega)]
      exact hl k hk
end ACTS
