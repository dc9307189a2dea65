/-! what the law's loop keeps (p2): bounds, and one tape -/
def TP (r : TX7_r) (s : TX12_s) : Prop := ∃ (T : Nat → Int32) (f : Nat) (tl : TR7) (ts : TS12), (∀ j, byt (T j)) ∧ f ≤ 900 ∧ r = (T, nI f, tl) ∧ s = (T, nI f, ts)
/-- the plan against the reference's pier; what stands now, what is kept, on both sides -/
def PO (p : TX6_p) (n : TX4_n) (h : TX2_h) (K : Nat → TX4_n) (v : TX12_v) (g : TX12_h) : Option TX11_q → Prop
  | none => PZ p ∧ n.1 = 0 ∧ n.2.1 = 0 ∧ n.2.2.1 = 0 ∧ h.2.1 = 0 ∧ h.2.2 = 0
  | some q => ∃ sp de ba as an bi cf ct t, PQ p q sp de ba as an bi cf ct ∧ t ≤ 999 ∧ NV sp de ba t n v ∧ HV sp de ba h K g
/-- fault and where, the same on both sides -/
def FW (X : XS) (M : MS) : Prop := X.1.2 = M.2.1.2.2.2.2.2.2.2.1 ∧ f_X10_where X.1 X.2.2.2.1 = M.1.2.2
def Rel (X : XS) (M : MS) (o : Option TX11_q) : Prop := IX X ∧ IM M ∧ IO o ∧ PO X.2.1 X.2.2.2.2.1 X.2.2.2.2.2.1 X.2.2.2.2.2.2.1 M.2.2.1 M.2.2.2.2.1 o ∧ FW X M ∧ TP X.2.2.2.1 M.2.1
theorem fst_of {α β : Type} {a a' : α} {b b' : β} (h : some (a, b) = some (a', b')) : a = a' := by
  cases h
  rfl
theorem r32_n {a : Nat} {h : Int} (h1 : (a : Int) ≤ h) (h2 : a < 2 ^ 31) : R32 0 h (nI a) := by
  unfold R32
  rw [nI_toInt h2]
  omega
theorem pr_bounds {p : TX6_p} {q : TX11_q} {n1 : Nat → Int64} {nb : Nat → Int32} {N : Nat} (h : PR p q n1 nb N) (hb : ¬ qBa q = 0) : (R32 0 8 p.1 ∧ R32 0 9 p.2.1 ∧ R32 0 4 p.2.2.2.2.1 ∧ R32 0 5 p.2.2.2.2.2.1 ∧ R32 0 6 p.2.2.2.2.2.2.1 ∧ R32 0 6 p.2.2.2.2.2.2.2.1) ∧ IQ q := by
  obtain ⟨ba, as, an, bi, hc, hh, -⟩ := h
  obtain ⟨c1, c2, c3, c4, c5, c6, c7, c8, c9, c10, c11, c12, c13, c14⟩ := hc
  obtain ⟨a1, a2, a3, a4, a5, a6⟩ := hh
  have hba : ¬ ba = 0 := fun z => hb (by rw [c2, z]; rfl)
  rcases a6 with ⟨-, z, -⟩ | ⟨b1, b2, b3, b4, -⟩
  · omega
  refine ⟨⟨?_, ?_, ?_, ?_, ?_, ?_⟩, ?_, ?_, ?_, ?_, ?_, ?_⟩
  · show R32 0 8 (pSp p)
    rw [a1]
    exact ⟨by omega, by omega⟩
  · show R32 0 9 (pDe p)
    rw [a2]
    exact ⟨by omega, by omega⟩
  · show R32 0 4 (pBa p)
    rw [c1]
    exact r32_n (by omega) (by omega)
  · show R32 0 5 (pAs p)
    rw [c4]
    exact r32_n (by omega) (by omega)
  · show R32 0 6 (pAn p)
    rw [c7]
    exact r32_n (by omega) (by omega)
  · show R32 0 6 (pBi p)
    rw [c10]
    exact r32_n (by omega) (by omega)
  · exact ⟨b1, b2⟩
  · exact ⟨b3, b4⟩
  · show R32 1 4 (qBa q)
    rw [c2]
    unfold R32
    rw [nI_toInt (by omega)]
    omega
  · show R32 0 5 (qAs q)
    rw [c5]
    exact r32_n (by omega) (by omega)
  · show R32 0 6 (qAn q)
    rw [c8]
    exact r32_n (by omega) (by omega)
  · show R32 0 6 (qBi q)
    rw [c11]
    exact r32_n (by omega) (by omega)
theorem pr_an {p : TX6_p} {q : TX11_q} {n1 : Nat → Int64} {nb : Nat → Int32} {N : Nat} (h : PR p q n1 nb N) : pAn p = qAn q := by
  obtain ⟨ba, as, an, bi, hc, -⟩ := h
  obtain ⟨c1, c2, c3, c4, c5, c6, c7, c8, -⟩ := hc
  rw [c7, c8]
theorem r32_0 {h : Int} (hh : 0 ≤ h) : R32 0 h 0 := ⟨by decide, by rw [ltv_0]; exact hh⟩
theorem po_new {p' : TX6_p} {q' : TX11_q} {n1 : Nat → Int64} {nb : Nat → Int32} {N : Nat} (hP : PR p' q' n1 nb N) (hb : ¬ qBa q' = 0) {X : XS} (hX : IX X) {st li lo lb v' : Nat → Int32} (h1 : ∀ j, j < 6 → st j = 0) (h2 : ∀ j, j < 5 → li j = -1) (h3 : vrow v') {K : Nat → TX4_n} {P Q : Nat → Int32} : PO p' (0, 0, 0, st, lo, lb, li) (X.2.2.2.2.2.1.1, 0, 0) K v' (P, Q, 0, 0) (some q') := by
  obtain ⟨sp, de, ba, as, an, bi, cf, ct, hq⟩ := pq_of hP hb
  obtain ⟨b1, b2⟩ := hX.2.2.2.2.2.2.1
  obtain ⟨o, h, e⟩ := inn_of b1
  rw [e, nI_toInt h] at b2
  rw [e]
  exact ⟨sp, de, ba, as, an, bi, cf, ct, 0, hq, by omega, nv_new h1 h2 h3, hv_0 (by omega) K P Q⟩
theorem st_fault {X : XS} {M : MS} {o : Option TX11_q} (hR : Rel X M o) : ∃ rx X' rm M' o', gX_fault X = some (rx, X') ∧ gM_fault M o = some (rm, M', o') ∧ Rel X' M' o' ∧ rx = rm := by
  obtain ⟨hX, hM, ho, hp, hw, hT⟩ := hR
  obtain ⟨rx, X', ex, hX', e1, e0, e3, en, eh, eK⟩ := sx_fault  hX
  obtain ⟨rm, M', em, hM', e2, e5, ev, eg⟩ := sm_fault  hM ho
  exact ⟨rx, X', rm, M', o, ex, em, ⟨hX', hM', ho, by rw [e0, en, eh, eK, ev, eg]; exact hp, ⟨by rw [e3, e2]; exact hw.1, by rw [e3, e1, e5]; exact hw.2⟩, by rw [e1, e2]; exact hT⟩, by
    obtain ⟨y1, h1⟩ : ∃ y, gX_fault X = some (X.1.2, y) := ⟨_, rfl⟩
    obtain ⟨y2, h2⟩ : ∃ y, gM_fault M o = some (M.2.1.2.2.2.2.2.2.2.1, y) := ⟨_, rfl⟩
    exact (fst_of (ex.symm.trans h1)).trans (hw.1.trans (fst_of (em.symm.trans h2)).symm)⟩
theorem st_where {X : XS} {M : MS} {o : Option TX11_q} (hR : Rel X M o) : ∃ rx X' rm M' o', gX_where X = some (rx, X') ∧ gM_where M o = some (rm, M', o') ∧ Rel X' M' o' ∧ rx = rm := by
  obtain ⟨hX, hM, ho, hp, hw, hT⟩ := hR
  obtain ⟨rx, X', ex, hX', e1, e0, e3, en, eh, eK⟩ := sx_where  hX
  obtain ⟨rm, M', em, hM', e2, e5, ev, eg⟩ := sm_where  hM ho
  exact ⟨rx, X', rm, M', o, ex, em, ⟨hX', hM', ho, by rw [e0, en, eh, eK, ev, eg]; exact hp, ⟨by rw [e3, e2]; exact hw.1, by rw [e3, e1, e5]; exact hw.2⟩, by rw [e1, e2]; exact hT⟩, by
    obtain ⟨y1, h1⟩ : ∃ y, gX_where X = some (f_X10_where X.1 X.2.2.2.1, y) := ⟨_, rfl⟩
    obtain ⟨y2, h2⟩ : ∃ y, gM_where M o = some (M.1.2.2, y) := ⟨_, rfl⟩
    exact (fst_of (ex.symm.trans h1)).trans (hw.2.trans (fst_of (em.symm.trans h2)).symm)⟩
theorem st_answer {k1 : Int32} {k2 : Int32} {X : XS} {M : MS} {o : Option TX11_q} (hR : Rel X M o) : ∃ rx X' rm M' o', gX_answer k1 k2 X = some (rx, X') ∧ gM_answer k1 k2 M o = some (rm, M', o') ∧ Rel X' M' o' ∧ True := by
  obtain ⟨hX, hM, ho, hp, hw, hT⟩ := hR
  obtain ⟨rx, X', ex, hX', e1, e0, e3, e4, en, eh, eK⟩ := sx_answer (k1 := k1) (k2 := k2) hX
  obtain ⟨rm, M', em, hM', e2, e5, ev, eg⟩ := sm_answer (k1 := k1) (k2 := k2) hM ho
  exact ⟨rx, X', rm, M', o, ex, em, ⟨hX', hM', ho, by rw [e0, en, eh, eK, ev, eg]; exact hp, ⟨by rw [e3, e2]; exact hw.1, by rw [f_X10_where, if_neg e4, e5]⟩, by rw [e1, e2]; exact hT⟩, trivial⟩
theorem st_asker {k1 : Int32} {k2 : Int32} {X : XS} {M : MS} {o : Option TX11_q} (hR : Rel X M o) : ∃ rx X' rm M' o', gX_asker k1 k2 X = some (rx, X') ∧ gM_asker k1 k2 M o = some (rm, M', o') ∧ Rel X' M' o' ∧ True := by
  obtain ⟨hX, hM, ho, hp, hw, hT⟩ := hR
  obtain ⟨rx, X', ex, hX', e1, e0, e3, e4, en, eh, eK⟩ := sx_asker (k1 := k1) (k2 := k2) hX
  obtain ⟨rm, M', em, hM', e2, e5, ev, eg⟩ := sm_asker (k1 := k1) (k2 := k2) hM ho
  exact ⟨rx, X', rm, M', o, ex, em, ⟨hX', hM', ho, by rw [e0, en, eh, eK, ev, eg]; exact hp, ⟨by rw [e3, e2]; exact hw.1, by rw [f_X10_where, if_neg e4, e5]⟩, by rw [e1, e2]; exact hT⟩, trivial⟩
theorem st_close {k1 : Int32} {X : XS} {M : MS} {o : Option TX11_q} (hR : Rel X M o) : ∃ rx X' rm M' o', gX_close k1 X = some (rx, X') ∧ gM_close k1 M o = some (rm, M', o') ∧ Rel X' M' o' ∧ True := by
  obtain ⟨hX, hM, ho, hp, hw, hT⟩ := hR
  obtain ⟨rx, X', ex, hX', e1, e0, e3, e4, en, eh, eK⟩ := sx_close (k1 := k1) hX
  obtain ⟨rm, M', em, hM', e2, e5, ev, eg⟩ := sm_close (k1 := k1) hM ho
  exact ⟨rx, X', rm, M', o, ex, em, ⟨hX', hM', ho, by rw [e0, en, eh, eK, ev, eg]; exact hp, ⟨by rw [e3, e2]; exact hw.1, by rw [f_X10_where, if_neg e4, e5]⟩, by rw [e1, e2]; exact hT⟩, trivial⟩
theorem st_wish {k1 : Int32} {k2 : Int32} {k3 : Int32} {k4 : Int32} {X : XS} {M : MS} {o : Option TX11_q} (hR : Rel X M o) : ∃ rx X' rm M' o', gX_wish k1 k2 k3 k4 X = some (rx, X') ∧ gM_wish k1 k2 k3 k4 M o = some (rm, M', o') ∧ Rel X' M' o' ∧ True := by
  obtain ⟨hX, hM, ho, hp, hw, hT⟩ := hR
  obtain ⟨rx, X', ex, hX', e1, e0, e3, e4, en, eh, eK⟩ := sx_wish (k1 := k1) (k2 := k2) (k3 := k3) (k4 := k4) hX
  obtain ⟨rm, M', em, hM', e2, e5, ev, eg⟩ := sm_wish (k1 := k1) (k2 := k2) (k3 := k3) (k4 := k4) hM ho
  exact ⟨rx, X', rm, M', o, ex, em, ⟨hX', hM', ho, by rw [e0, en, eh, eK, ev, eg]; exact hp, ⟨by rw [e3, e2]; exact hw.1, by rw [f_X10_where, if_neg e4, e5]⟩, by rw [e1, e2]; exact hT⟩, trivial⟩
theorem st_takes {k1 : Int32} {k2 : Int32} {k3 : Int32} {k4 : Int32} {k5 : Int32} {X : XS} {M : MS} {o : Option TX11_q} (hR : Rel X M o) : ∃ rx X' rm M' o', gX_takes k1 k2 k3 k4 k5 X = some (rx, X') ∧ gM_takes k1 k2 k3 k4 k5 M o = some (rm, M', o') ∧ Rel X' M' o' ∧ True := by
  obtain ⟨hX, hM, ho, hp, hw, hT⟩ := hR
  obtain ⟨rx, X', ex, hX', e1, e0, e3, e4, en, eh, eK⟩ := sx_takes (k1 := k1) (k2 := k2) (k3 := k3) (k4 := k4) (k5 := k5) hX
  obtain ⟨rm, M', em, hM', e2, e5, ev, eg⟩ := sm_takes (k1 := k1) (k2 := k2) (k3 := k3) (k4 := k4) (k5 := k5) hM ho
  exact ⟨rx, X', rm, M', o, ex, em, ⟨hX', hM', ho, by rw [e0, en, eh, eK, ev, eg]; exact hp, ⟨by rw [e3, e2]; exact hw.1, by rw [f_X10_where, if_neg e4, e5]⟩, by rw [e1, e2]; exact hT⟩, trivial⟩
theorem st_nothing {k1 : Int32} {k2 : Int32} {k3 : Int32} {k4 : Int32} {X : XS} {M : MS} {o : Option TX11_q} (hR : Rel X M o) : ∃ rx X' rm M' o', gX_nothing k1 k2 k3 k4 X = some (rx, X') ∧ gM_nothing k1 k2 k3 k4 M o = some (rm, M', o') ∧ Rel X' M' o' ∧ True := by
  obtain ⟨hX, hM, ho, hp, hw, hT⟩ := hR
  obtain ⟨rx, X', ex, hX', e1, e0, e3, e4, en, eh, eK⟩ := sx_nothing (k1 := k1) (k2 := k2) (k3 := k3) (k4 := k4) hX
  obtain ⟨rm, M', em, hM', e2, e5, ev, eg⟩ := sm_nothing (k1 := k1) (k2 := k2) (k3 := k3) (k4 := k4) hM ho
  exact ⟨rx, X', rm, M', o, ex, em, ⟨hX', hM', ho, by rw [e0, en, eh, eK, ev, eg]; exact hp, ⟨by rw [e3, e2]; exact hw.1, by rw [f_X10_where, if_neg e4, e5]⟩, by rw [e1, e2]; exact hT⟩, trivial⟩
theorem st_mean {k1 : Int32} {k2 : Int32} {k3 : Int32} {k4 : Int32} {X : XS} {M : MS} {o : Option TX11_q} (hR : Rel X M o) : ∃ rx X' rm M' o', gX_mean k1 k2 k3 k4 X = some (rx, X') ∧ gM_mean k1 k2 k3 k4 M o = some (rm, M', o') ∧ Rel X' M' o' ∧ True := by
  obtain ⟨hX, hM, ho, hp, hw, hT⟩ := hR
  obtain ⟨rx, X', ex, hX', e1, e0, e3, e4, en, eh, eK⟩ := sx_mean (k1 := k1) (k2 := k2) (k3 := k3) (k4 := k4) hX
  obtain ⟨rm, M', em, hM', e2, e5, ev, eg⟩ := sm_mean (k1 := k1) (k2 := k2) (k3 := k3) (k4 := k4) hM ho
  exact ⟨rx, X', rm, M', o, ex, em, ⟨hX', hM', ho, by rw [e0, en, eh, eK, ev, eg]; exact hp, ⟨by rw [e3, e2]; exact hw.1, by rw [f_X10_where, if_neg e4, e5]⟩, by rw [e1, e2]; exact hT⟩, trivial⟩
theorem st_likeliest {k1 : Int32} {k2 : Int32} {k3 : Int32} {X : XS} {M : MS} {o : Option TX11_q} (hR : Rel X M o) : ∃ rx X' rm M' o', gX_likeliest k1 k2 k3 X = some (rx, X') ∧ gM_likeliest k1 k2 k3 M o = some (rm, M', o') ∧ Rel X' M' o' ∧ True := by
  obtain ⟨hX, hM, ho, hp, hw, hT⟩ := hR
  obtain ⟨rx, X', ex, hX', e1, e0, e3, e4, en, eh, eK⟩ := sx_likeliest (k1 := k1) (k2 := k2) (k3 := k3) hX
  obtain ⟨rm, M', em, hM', e2, e5, ev, eg⟩ := sm_likeliest (k1 := k1) (k2 := k2) (k3 := k3) hM ho
  exact ⟨rx, X', rm, M', o, ex, em, ⟨hX', hM', ho, by rw [e0, en, eh, eK, ev, eg]; exact hp, ⟨by rw [e3, e2]; exact hw.1, by rw [f_X10_where, if_neg e4, e5]⟩, by rw [e1, e2]; exact hT⟩, trivial⟩
theorem st_surest {k1 : Int32} {X : XS} {M : MS} {o : Option TX11_q} (hR : Rel X M o) : ∃ rx X' rm M' o', gX_surest k1 X = some (rx, X') ∧ gM_surest k1 M o = some (rm, M', o') ∧ Rel X' M' o' ∧ True := by
  obtain ⟨hX, hM, ho, hp, hw, hT⟩ := hR
  obtain ⟨rx, X', ex, hX', e1, e0, e3, e4, en, eh, eK⟩ := sx_surest (k1 := k1) hX
  obtain ⟨rm, M', em, hM', e2, e5, ev, eg⟩ := sm_surest (k1 := k1) hM ho
  exact ⟨rx, X', rm, M', o, ex, em, ⟨hX', hM', ho, by rw [e0, en, eh, eK, ev, eg]; exact hp, ⟨by rw [e3, e2]; exact hw.1, by rw [f_X10_where, if_neg e4, e5]⟩, by rw [e1, e2]; exact hT⟩, trivial⟩
theorem st_surestOdds {k1 : Int32} {k2 : Int32} {X : XS} {M : MS} {o : Option TX11_q} (hR : Rel X M o) : ∃ rx X' rm M' o', gX_surestOdds k1 k2 X = some (rx, X') ∧ gM_surestOdds k1 k2 M o = some (rm, M', o') ∧ Rel X' M' o' ∧ True := by
  obtain ⟨hX, hM, ho, hp, hw, hT⟩ := hR
  obtain ⟨rx, X', ex, hX', e1, e0, e3, e4, en, eh, eK⟩ := sx_surestOdds (k1 := k1) (k2 := k2) hX
  obtain ⟨rm, M', em, hM', e2, e5, ev, eg⟩ := sm_surestOdds (k1 := k1) (k2 := k2) hM ho
  exact ⟨rx, X', rm, M', o, ex, em, ⟨hX', hM', ho, by rw [e0, en, eh, eK, ev, eg]; exact hp, ⟨by rw [e3, e2]; exact hw.1, by rw [f_X10_where, if_neg e4, e5]⟩, by rw [e1, e2]; exact hT⟩, trivial⟩
theorem st_best {X : XS} {M : MS} {o : Option TX11_q} (hR : Rel X M o) : ∃ rx X' rm M' o', gX_best X = some (rx, X') ∧ gM_best M o = some (rm, M', o') ∧ Rel X' M' o' ∧ True := by
  obtain ⟨hX, hM, ho, hp, hw, hT⟩ := hR
  obtain ⟨rx, X', ex, hX', e1, e0, e3, e4, en, eh, eK⟩ := sx_best  hX
  obtain ⟨rm, M', em, hM', e2, e5, ev, eg⟩ := sm_best  hM ho
  exact ⟨rx, X', rm, M', o, ex, em, ⟨hX', hM', ho, by rw [e0, en, eh, eK, ev, eg]; exact hp, ⟨by rw [e3, e2]; exact hw.1, by rw [f_X10_where, if_neg e4, e5]⟩, by rw [e1, e2]; exact hT⟩, trivial⟩
theorem st_bestBait {X : XS} {M : MS} {o : Option TX11_q} (hR : Rel X M o) : ∃ rx X' rm M' o', gX_bestBait X = some (rx, X') ∧ gM_bestBait M o = some (rm, M', o') ∧ Rel X' M' o' ∧ True := by
  obtain ⟨hX, hM, ho, hp, hw, hT⟩ := hR
  obtain ⟨rx, X', ex, hX', e1, e0, e3, e4, en, eh, eK⟩ := sx_bestBait  hX
  obtain ⟨rm, M', em, hM', e2, e5, ev, eg⟩ := sm_bestBait  hM ho
  exact ⟨rx, X', rm, M', o, ex, em, ⟨hX', hM', ho, by rw [e0, en, eh, eK, ev, eg]; exact hp, ⟨by rw [e3, e2]; exact hw.1, by rw [f_X10_where, if_neg e4, e5]⟩, by rw [e1, e2]; exact hT⟩, trivial⟩
theorem st_hungerFor {k1 : Int32} {k2 : Int32} {k3 : Int32} {k4 : Int32} {X : XS} {M : MS} {o : Option TX11_q} (hR : Rel X M o) : ∃ rx X' rm M' o', gX_hungerFor k1 k2 k3 k4 X = some (rx, X') ∧ gM_hungerFor k1 k2 k3 k4 M o = some (rm, M', o') ∧ Rel X' M' o' ∧ True := by
  obtain ⟨hX, hM, ho, hp, hw, hT⟩ := hR
  obtain ⟨rx, X', ex, hX', e1, e0, e3, e4, en, eh, eK⟩ := sx_hungerFor (k1 := k1) (k2 := k2) (k3 := k3) (k4 := k4) hX
  obtain ⟨rm, M', em, hM', e2, e5, ev, eg⟩ := sm_hungerFor (k1 := k1) (k2 := k2) (k3 := k3) (k4 := k4) hM ho
  exact ⟨rx, X', rm, M', o, ex, em, ⟨hX', hM', ho, by rw [e0, en, eh, eK, ev, eg]; exact hp, ⟨by rw [e3, e2]; exact hw.1, by rw [f_X10_where, if_neg e4, e5]⟩, by rw [e1, e2]; exact hT⟩, trivial⟩
theorem st_freeSpots {k1 : Int32} {X : XS} {M : MS} {o : Option TX11_q} (hR : Rel X M o) : ∃ rx X' rm M' o', gX_freeSpots k1 X = some (rx, X') ∧ gM_freeSpots k1 M o = some (rm, M', o') ∧ Rel X' M' o' ∧ True := by
  obtain ⟨hX, hM, ho, hp, hw, hT⟩ := hR
  obtain ⟨rx, X', ex, hX', e1, e0, e3, e4, en, eh, eK⟩ := sx_freeSpots (k1 := k1) hX
  obtain ⟨rm, M', em, hM', e2, e5, ev, eg⟩ := sm_freeSpots (k1 := k1) hM ho
  exact ⟨rx, X', rm, M', o, ex, em, ⟨hX', hM', ho, by rw [e0, en, eh, eK, ev, eg]; exact hp, ⟨by rw [e3, e2]; exact hw.1, by rw [f_X10_where, if_neg e4, e5]⟩, by rw [e1, e2]; exact hT⟩, trivial⟩
theorem st_tangles {k1 : Int32} {k2 : Int32} {k3 : Int32} {k4 : Int32} {X : XS} {M : MS} {o : Option TX11_q} (hR : Rel X M o) : ∃ rx X' rm M' o', gX_tangles k1 k2 k3 k4 X = some (rx, X') ∧ gM_tangles k1 k2 k3 k4 M o = some (rm, M', o') ∧ Rel X' M' o' ∧ True := by
  obtain ⟨hX, hM, ho, hp, hw, hT⟩ := hR
  obtain ⟨rx, X', ex, hX', e1, e0, e3, e4, en, eh, eK⟩ := sx_tangles (k1 := k1) (k2 := k2) (k3 := k3) (k4 := k4) hX
  obtain ⟨rm, M', em, hM', e2, e5, ev, eg⟩ := sm_tangles (k1 := k1) (k2 := k2) (k3 := k3) (k4 := k4) hM ho
  exact ⟨rx, X', rm, M', o, ex, em, ⟨hX', hM', ho, by rw [e0, en, eh, eK, ev, eg]; exact hp, ⟨by rw [e3, e2]; exact hw.1, by rw [f_X10_where, if_neg e4, e5]⟩, by rw [e1, e2]; exact hT⟩, trivial⟩
theorem st_seatings {X : XS} {M : MS} {o : Option TX11_q} (hR : Rel X M o) : ∃ rx X' rm M' o', gX_seatings X = some (rx, X') ∧ gM_seatings M o = some (rm, M', o') ∧ Rel X' M' o' ∧ True := by
  obtain ⟨hX, hM, ho, hp, hw, hT⟩ := hR
  obtain ⟨rx, X', ex, hX', e1, e0, e3, e4, en, eh, eK⟩ := sx_seatings  hX
  obtain ⟨rm, M', em, hM', e2, e5, ev, eg⟩ := sm_seatings  hM ho
  exact ⟨rx, X', rm, M', o, ex, em, ⟨hX', hM', ho, by rw [e0, en, eh, eK, ev, eg]; exact hp, ⟨by rw [e3, e2]; exact hw.1, by rw [f_X10_where, if_neg e4, e5]⟩, by rw [e1, e2]; exact hT⟩, trivial⟩
theorem st_seat {k1 : Int32} {X : XS} {M : MS} {o : Option TX11_q} (hR : Rel X M o) : ∃ rx X' rm M' o', gX_seat k1 X = some (rx, X') ∧ gM_seat k1 M o = some (rm, M', o') ∧ Rel X' M' o' ∧ True := by
  obtain ⟨hX, hM, ho, hp, hw, hT⟩ := hR
  obtain ⟨rx, X', ex, hX', e1, e0, e3, e4, en, eh, eK⟩ := sx_seat (k1 := k1) hX
  obtain ⟨rm, M', em, hM', e2, e5, ev, eg⟩ := sm_seat (k1 := k1) hM ho
  exact ⟨rx, X', rm, M', o, ex, em, ⟨hX', hM', ho, by rw [e0, en, eh, eK, ev, eg]; exact hp, ⟨by rw [e3, e2]; exact hw.1, by rw [f_X10_where, if_neg e4, e5]⟩, by rw [e1, e2]; exact hT⟩, trivial⟩
theorem st_mostSeated {X : XS} {M : MS} {o : Option TX11_q} (hR : Rel X M o) : ∃ rx X' rm M' o', gX_mostSeated X = some (rx, X') ∧ gM_mostSeated M o = some (rm, M', o') ∧ Rel X' M' o' ∧ True := by
  obtain ⟨hX, hM, ho, hp, hw, hT⟩ := hR
  obtain ⟨rx, X', ex, hX', e1, e0, e3, e4, en, eh, eK⟩ := sx_mostSeated  hX
  obtain ⟨rm, M', em, hM', e2, e5, ev, eg⟩ := sm_mostSeated  hM ho
  exact ⟨rx, X', rm, M', o, ex, em, ⟨hX', hM', ho, by rw [e0, en, eh, eK, ev, eg]; exact hp, ⟨by rw [e3, e2]; exact hw.1, by rw [f_X10_where, if_neg e4, e5]⟩, by rw [e1, e2]; exact hT⟩, trivial⟩
theorem st_darks {X : XS} {M : MS} {o : Option TX11_q} (hR : Rel X M o) : ∃ rx X' rm M' o', gX_darks X = some (rx, X') ∧ gM_darks M o = some (rm, M', o') ∧ Rel X' M' o' ∧ True := by
  obtain ⟨hX, hM, ho, hp, hw, hT⟩ := hR
  obtain ⟨rx, X', ex, hX', e1, e0, e3, e4, en, eh, eK⟩ := sx_darks  hX
  obtain ⟨rm, M', em, hM', e2, e5, ev, eg⟩ := sm_darks  hM ho
  exact ⟨rx, X', rm, M', o, ex, em, ⟨hX', hM', ho, by rw [e0, en, eh, eK, ev, eg]; exact hp, ⟨by rw [e3, e2]; exact hw.1, by rw [f_X10_where, if_neg e4, e5]⟩, by rw [e1, e2]; exact hT⟩, trivial⟩
theorem st_darkAt {k1 : Int32} {X : XS} {M : MS} {o : Option TX11_q} (hR : Rel X M o) : ∃ rx X' rm M' o', gX_darkAt k1 X = some (rx, X') ∧ gM_darkAt k1 M o = some (rm, M', o') ∧ Rel X' M' o' ∧ True := by
  obtain ⟨hX, hM, ho, hp, hw, hT⟩ := hR
  obtain ⟨rx, X', ex, hX', e1, e0, e3, e4, en, eh, eK⟩ := sx_darkAt (k1 := k1) hX
  obtain ⟨rm, M', em, hM', e2, e5, ev, eg⟩ := sm_darkAt (k1 := k1) hM ho
  exact ⟨rx, X', rm, M', o, ex, em, ⟨hX', hM', ho, by rw [e0, en, eh, eK, ev, eg]; exact hp, ⟨by rw [e3, e2]; exact hw.1, by rw [f_X10_where, if_neg e4, e5]⟩, by rw [e1, e2]; exact hT⟩, trivial⟩
theorem st_darkSpots {X : XS} {M : MS} {o : Option TX11_q} (hR : Rel X M o) : ∃ rx X' rm M' o', gX_darkSpots X = some (rx, X') ∧ gM_darkSpots M o = some (rm, M', o') ∧ Rel X' M' o' ∧ True := by
  obtain ⟨hX, hM, ho, hp, hw, hT⟩ := hR
  obtain ⟨rx, X', ex, hX', e1, e0, e3, e4, en, eh, eK⟩ := sx_darkSpots  hX
  obtain ⟨rm, M', em, hM', e2, e5, ev, eg⟩ := sm_darkSpots  hM ho
  exact ⟨rx, X', rm, M', o, ex, em, ⟨hX', hM', ho, by rw [e0, en, eh, eK, ev, eg]; exact hp, ⟨by rw [e3, e2]; exact hw.1, by rw [f_X10_where, if_neg e4, e5]⟩, by rw [e1, e2]; exact hT⟩, trivial⟩
theorem st_ask {X : XS} {M : MS} {o : Option TX11_q} (hR : Rel X M o) : ∃ rx X' rm M' o', gX_ask X = some (rx, X') ∧ gM_ask M o = some (rm, M', o') ∧ Rel X' M' o' ∧ True := by
  obtain ⟨hX, hM, ho, hp, hw, hT⟩ := hR
  obtain ⟨rx, X', ex, hX', e1, e0, e3, e4, en, eh, eK⟩ := sx_ask  hX
  obtain ⟨rm, M', em, hM', e2, e5, ev, eg⟩ := sm_ask  hM ho
  exact ⟨rx, X', rm, M', o, ex, em, ⟨hX', hM', ho, by rw [e0, en, eh, eK, ev, eg]; exact hp, ⟨by rw [e3, e2]; exact hw.1, by rw [f_X10_where, if_neg e4, e5]⟩, by rw [e1, e2]; exact hT⟩, trivial⟩
theorem st_askLeaves {X : XS} {M : MS} {o : Option TX11_q} (hR : Rel X M o) : ∃ rx X' rm M' o', gX_askLeaves X = some (rx, X') ∧ gM_askLeaves M o = some (rm, M', o') ∧ Rel X' M' o' ∧ True := by
  obtain ⟨hX, hM, ho, hp, hw, hT⟩ := hR
  obtain ⟨rx, X', ex, hX', e1, e0, e3, e4, en, eh, eK⟩ := sx_askLeaves  hX
  obtain ⟨rm, M', em, hM', e2, e5, ev, eg⟩ := sm_askLeaves  hM ho
  exact ⟨rx, X', rm, M', o, ex, em, ⟨hX', hM', ho, by rw [e0, en, eh, eK, ev, eg]; exact hp, ⟨by rw [e3, e2]; exact hw.1, by rw [f_X10_where, if_neg e4, e5]⟩, by rw [e1, e2]; exact hT⟩, trivial⟩
theorem st_judge {k1 : Int32} {X : XS} {M : MS} {o : Option TX11_q} (hR : Rel X M o) : ∃ rx X' rm M' o', gX_judge k1 X = some (rx, X') ∧ gM_judge k1 M o = some (rm, M', o') ∧ Rel X' M' o' ∧ True := by
  obtain ⟨hX, hM, ho, hp, hw, hT⟩ := hR
  obtain ⟨rx, X', ex, hX', e1, e0, e3, e4, en, eh, eK⟩ := sx_judge (k1 := k1) hX
  obtain ⟨rm, M', em, hM', e2, e5, ev, eg⟩ := sm_judge (k1 := k1) hM ho
  exact ⟨rx, X', rm, M', o, ex, em, ⟨hX', hM', ho, by rw [e0, en, eh, eK, ev, eg]; exact hp, ⟨by rw [e3, e2]; exact hw.1, by rw [f_X10_where, if_neg e4, e5]⟩, by rw [e1, e2]; exact hT⟩, trivial⟩
theorem st_worth {k1 : Int32} {k2 : Int32} {k3 : Int32} {X : XS} {M : MS} {o : Option TX11_q} (hR : Rel X M o) : ∃ rx X' rm M' o', gX_worth k1 k2 k3 X = some (rx, X') ∧ gM_worth k1 k2 k3 M o = some (rm, M', o') ∧ Rel X' M' o' ∧ True := by
  obtain ⟨hX, hM, ho, hp, hw, hT⟩ := hR
  obtain ⟨rx, X', ex, hX', e1, e0, e3, e4, en, eh, eK⟩ := sx_worth (k1 := k1) (k2 := k2) (k3 := k3) hX
  obtain ⟨rm, M', em, hM', e2, e5, ev, eg⟩ := sm_worth (k1 := k1) (k2 := k2) (k3 := k3) hM ho
  exact ⟨rx, X', rm, M', o, ex, em, ⟨hX', hM', ho, by rw [e0, en, eh, eK, ev, eg]; exact hp, ⟨by rw [e3, e2]; exact hw.1, by rw [f_X10_where, if_neg e4, e5]⟩, by rw [e1, e2]; exact hT⟩, trivial⟩
theorem st_load {k1 : Int32} {X : XS} {M : MS} {o : Option TX11_q} (hR : Rel X M o) : ∃ rx X' rm M' o', gX_load k1 X = some (rx, X') ∧ gM_load k1 M o = some (rm, M', o') ∧ Rel X' M' o' ∧ True := by
  obtain ⟨hX, hM, ho, hp, hw, hT⟩ := hR
  obtain ⟨rx, X', ex, hX', e1, e0, e3, e4, en, eh, eK⟩ := sx_load (k1 := k1) hX
  obtain ⟨rm, M', em, hM', e2, e5, ev, eg⟩ := sm_load (k1 := k1) hM ho
  exact ⟨rx, X', rm, M', o, ex, em, ⟨hX', hM', ho, by rw [e0, en, eh, eK, ev, eg]; exact hp, ⟨by rw [e3, e2]; exact hw.1, by rw [f_X10_where, if_neg e4, e5]⟩, by rw [e1, e2]; exact hT⟩, trivial⟩
theorem st_loadWorth {k1 : Int32} {X : XS} {M : MS} {o : Option TX11_q} (hR : Rel X M o) : ∃ rx X' rm M' o', gX_loadWorth k1 X = some (rx, X') ∧ gM_loadWorth k1 M o = some (rm, M', o') ∧ Rel X' M' o' ∧ True := by
  obtain ⟨hX, hM, ho, hp, hw, hT⟩ := hR
  obtain ⟨rx, X', ex, hX', e1, e0, e3, e4, en, eh, eK⟩ := sx_loadWorth (k1 := k1) hX
  obtain ⟨rm, M', em, hM', e2, e5, ev, eg⟩ := sm_loadWorth (k1 := k1) hM ho
  exact ⟨rx, X', rm, M', o, ex, em, ⟨hX', hM', ho, by rw [e0, en, eh, eK, ev, eg]; exact hp, ⟨by rw [e3, e2]; exact hw.1, by rw [f_X10_where, if_neg e4, e5]⟩, by rw [e1, e2]; exact hT⟩, trivial⟩
theorem st_bestDay {X : XS} {M : MS} {o : Option TX11_q} (hR : Rel X M o) : ∃ rx X' rm M' o', gX_bestDay X = some (rx, X') ∧ gM_bestDay M o = some (rm, M', o') ∧ Rel X' M' o' ∧ True := by
  obtain ⟨hX, hM, ho, hp, hw, hT⟩ := hR
  obtain ⟨rx, X', ex, hX', e1, e0, e3, e4, en, eh, eK⟩ := sx_bestDay  hX
  obtain ⟨rm, M', em, hM', e2, e5, ev, eg⟩ := sm_bestDay  hM ho
  exact ⟨rx, X', rm, M', o, ex, em, ⟨hX', hM', ho, by rw [e0, en, eh, eK, ev, eg]; exact hp, ⟨by rw [e3, e2]; exact hw.1, by rw [f_X10_where, if_neg e4, e5]⟩, by rw [e1, e2]; exact hT⟩, trivial⟩
theorem st_hooks {k1 : Int32} {k2 : Int32} {k3 : Int32} {k4 : Int32} {k5 : Int32} {X : XS} {M : MS} {o : Option TX11_q} (hR : Rel X M o) : ∃ rx X' rm M' o', gX_hooks k1 k2 k3 k4 k5 X = some (rx, X') ∧ gM_hooks k1 k2 k3 k4 k5 M o = some (rm, M', o') ∧ Rel X' M' o' ∧ True := by
  obtain ⟨hX, hM, ho, hp, hw, hT⟩ := hR
  obtain ⟨rx, X', ex, hX', e1, e0, e3, e4, en, eh, eK⟩ := sx_hooks (k1 := k1) (k2 := k2) (k3 := k3) (k4 := k4) (k5 := k5) hX
  obtain ⟨rm, M', em, hM', e2, e5, ev, eg⟩ := sm_hooks (k1 := k1) (k2 := k2) (k3 := k3) (k4 := k4) (k5 := k5) hM ho
  exact ⟨rx, X', rm, M', o, ex, em, ⟨hX', hM', ho, by rw [e0, en, eh, eK, ev, eg]; exact hp, ⟨by rw [e3, e2]; exact hw.1, by rw [f_X10_where, if_neg e4, e5]⟩, by rw [e1, e2]; exact hT⟩, trivial⟩
theorem st_lines {k1 : Int32} {k2 : Int32} {k3 : Int32} {k4 : Int32} {X : XS} {M : MS} {o : Option TX11_q} (hR : Rel X M o) : ∃ rx X' rm M' o', gX_lines k1 k2 k3 k4 X = some (rx, X') ∧ gM_lines k1 k2 k3 k4 M o = some (rm, M', o') ∧ Rel X' M' o' ∧ True := by
  obtain ⟨hX, hM, ho, hp, hw, hT⟩ := hR
  obtain ⟨rx, X', ex, hX', e1, e0, e3, e4, en, eh, eK⟩ := sx_lines (k1 := k1) (k2 := k2) (k3 := k3) (k4 := k4) hX
  obtain ⟨rm, M', em, hM', e2, e5, ev, eg⟩ := sm_lines (k1 := k1) (k2 := k2) (k3 := k3) (k4 := k4) hM ho
  exact ⟨rx, X', rm, M', o, ex, em, ⟨hX', hM', ho, by rw [e0, en, eh, eK, ev, eg]; exact hp, ⟨by rw [e3, e2]; exact hw.1, by rw [f_X10_where, if_neg e4, e5]⟩, by rw [e1, e2]; exact hT⟩, trivial⟩
theorem st_rests {k1 : Int32} {X : XS} {M : MS} {o : Option TX11_q} (hR : Rel X M o) : ∃ rx X' rm M' o', gX_rests k1 X = some (rx, X') ∧ gM_rests k1 M o = some (rm, M', o') ∧ Rel X' M' o' ∧ True := by
  obtain ⟨hX, hM, ho, hp, hw, hT⟩ := hR
  obtain ⟨rx, X', ex, hX', e1, e0, e3, e4, en, eh, eK⟩ := sx_rests (k1 := k1) hX
  obtain ⟨rm, M', em, hM', e2, e5, ev, eg⟩ := sm_rests (k1 := k1) hM ho
  exact ⟨rx, X', rm, M', o, ex, em, ⟨hX', hM', ho, by rw [e0, en, eh, eK, ev, eg]; exact hp, ⟨by rw [e3, e2]; exact hw.1, by rw [f_X10_where, if_neg e4, e5]⟩, by rw [e1, e2]; exact hT⟩, trivial⟩
theorem st_rest {k1 : Int32} {X : XS} {M : MS} {o : Option TX11_q} (hR : Rel X M o) : ∃ rx X' rm M' o', gX_rest k1 X = some (rx, X') ∧ gM_rest k1 M o = some (rm, M', o') ∧ Rel X' M' o' ∧ True := by
  obtain ⟨hX, hM, ho, hp, hw, hT⟩ := hR
  obtain ⟨rx, X', ex, hX', e1, e0, e3, e4, en, eh, eK⟩ := sx_rest (k1 := k1) hX
  obtain ⟨rm, M', em, hM', e2, e5, ev, eg⟩ := sm_rest (k1 := k1) hM ho
  exact ⟨rx, X', rm, M', o, ex, em, ⟨hX', hM', ho, by rw [e0, en, eh, eK, ev, eg]; exact hp, ⟨by rw [e3, e2]; exact hw.1, by rw [f_X10_where, if_neg e4, e5]⟩, by rw [e1, e2]; exact hT⟩, trivial⟩
theorem st_landed {k1 : Int32} {k2 : Int32} {X : XS} {M : MS} {o : Option TX11_q} (hR : Rel X M o) : ∃ rx X' rm M' o', gX_landed k1 k2 X = some (rx, X') ∧ gM_landed k1 k2 M o = some (rm, M', o') ∧ Rel X' M' o' ∧ True := by
  obtain ⟨hX, hM, ho, hp, hw, hT⟩ := hR
  obtain ⟨rx, X', ex, hX', e1, e0, e3, e4, en, eh, eK⟩ := sx_landed (k1 := k1) (k2 := k2) hX
  obtain ⟨rm, M', em, hM', e2, e5, ev, eg⟩ := sm_landed (k1 := k1) (k2 := k2) hM ho
  exact ⟨rx, X', rm, M', o, ex, em, ⟨hX', hM', ho, by rw [e0, en, eh, eK, ev, eg]; exact hp, ⟨by rw [e3, e2]; exact hw.1, by rw [f_X10_where, if_neg e4, e5]⟩, by rw [e1, e2]; exact hT⟩, trivial⟩
theorem st_landedIn {k1 : Int32} {k2 : Int32} {k3 : Int32} {X : XS} {M : MS} {o : Option TX11_q} (hR : Rel X M o) : ∃ rx X' rm M' o', gX_landedIn k1 k2 k3 X = some (rx, X') ∧ gM_landedIn k1 k2 k3 M o = some (rm, M', o') ∧ Rel X' M' o' ∧ True := by
  obtain ⟨hX, hM, ho, hp, hw, hT⟩ := hR
  obtain ⟨rx, X', ex, hX', e1, e0, e3, e4, en, eh, eK⟩ := sx_landedIn (k1 := k1) (k2 := k2) (k3 := k3) hX
  obtain ⟨rm, M', em, hM', e2, e5, ev, eg⟩ := sm_landedIn (k1 := k1) (k2 := k2) (k3 := k3) hM ho
  exact ⟨rx, X', rm, M', o, ex, em, ⟨hX', hM', ho, by rw [e0, en, eh, eK, ev, eg]; exact hp, ⟨by rw [e3, e2]; exact hw.1, by rw [f_X10_where, if_neg e4, e5]⟩, by rw [e1, e2]; exact hT⟩, trivial⟩
theorem st_crabs {k1 : Int32} {k2 : Int32} {X : XS} {M : MS} {o : Option TX11_q} (hR : Rel X M o) : ∃ rx X' rm M' o', gX_crabs k1 k2 X = some (rx, X') ∧ gM_crabs k1 k2 M o = some (rm, M', o') ∧ Rel X' M' o' ∧ True := by
  obtain ⟨hX, hM, ho, hp, hw, hT⟩ := hR
  obtain ⟨rx, X', ex, hX', e1, e0, e3, e4, en, eh, eK⟩ := sx_crabs (k1 := k1) (k2 := k2) hX
  obtain ⟨rm, M', em, hM', e2, e5, ev, eg⟩ := sm_crabs (k1 := k1) (k2 := k2) hM ho
  exact ⟨rx, X', rm, M', o, ex, em, ⟨hX', hM', ho, by rw [e0, en, eh, eK, ev, eg]; exact hp, ⟨by rw [e3, e2]; exact hw.1, by rw [f_X10_where, if_neg e4, e5]⟩, by rw [e1, e2]; exact hT⟩, trivial⟩
theorem st_let {k1 : Int32} {k2 : Int32} {k3 : Int32} {k4 : Int32} {X : XS} {M : MS} {o : Option TX11_q} (hR : Rel X M o) : ∃ rx X' rm M' o', gX_let k1 k2 k3 k4 X = some (rx, X') ∧ gM_let k1 k2 k3 k4 M o = some (rm, M', o') ∧ Rel X' M' o' ∧ rx = rm := by
  obtain ⟨hX, hM, ho, hp, hw, hT⟩ := hR
  obtain ⟨rx, X', ex, hX', e1, e0, e3, e4⟩ := sx_let (k1 := k1) (k2 := k2) (k3 := k3) (k4 := k4) hX
  obtain ⟨rm, M', em, hM', e2, e5⟩ := sm_let (k1 := k1) (k2 := k2) (k3 := k3) (k4 := k4) hM ho
  have key : PO X'.2.1 X'.2.2.2.2.1 X'.2.2.2.2.2.1 X'.2.2.2.2.2.2.1 M'.2.2.1 M'.2.2.2.2.1 o ∧ rx = rm := by
    cases o with
    | none =>
      obtain ⟨x0, K0, h1⟩ : ∃ x0 K0, gX_let k1 k2 k3 k4 X = some (0, (x0, X.2.1, X.2.2.1, X.2.2.2.1, X.2.2.2.2.1, X.2.2.2.2.2.1, K0, X.2.2.2.2.2.2.2.1, X.2.2.2.2.2.2.2.2.1, X.2.2.2.2.2.2.2.2.2.1, X.2.2.2.2.2.2.2.2.2.2)) := ⟨_, _, by
        show Option.map _ (f_X10_let k1 k2 k3 k4 X.1 (X.2.2.2.2.2.2.1 (kpI X.2.2.2.2.2.1)) X.2.1 X.2.2.2.2.1 X.2.2.2.2.2.1) = _
        rw [zn_let hp.1 k1 k2 k3 k4 X.1 _ _ _]
        rfl⟩
      obtain ⟨t0, h2⟩ : ∃ t0, gM_let k1 k2 k3 k4 M none = some (0, (t0, M.2), none) := ⟨_, rfl⟩
      obtain ⟨r1, x1⟩ := Prod.mk.inj (Option.some.inj (ex.symm.trans h1))
      obtain ⟨r2, x2⟩ := Prod.mk.inj (Option.some.inj (em.symm.trans h2))
      obtain ⟨x2, -⟩ := Prod.mk.inj x2
      rw [x1, x2]
      exact ⟨hp, r1.trans r2.symm⟩
    | some q =>
      obtain ⟨sp, de, ba, as, an, bi, cf, ct, t, hq, ht, hn, hh⟩ := hp
      obtain ⟨r, tr, kn, n', h', v', g', g1, g2, hn', hh'⟩ := ac_let hq hn ht hh k1 k2 k3 k4 X.1 M.1
      have h1 : gX_let k1 k2 k3 k4 X = some (r, ((tr, X.1.2), X.2.1, X.2.2.1, X.2.2.2.1, n', h', updN X.2.2.2.2.2.2.1 (kpI X.2.2.2.2.2.1) kn, X.2.2.2.2.2.2.2.1, X.2.2.2.2.2.2.2.2.1, X.2.2.2.2.2.2.2.2.2.1, X.2.2.2.2.2.2.2.2.2.2)) := by
        show Option.map _ (f_X10_let k1 k2 k3 k4 X.1 (X.2.2.2.2.2.2.1 (kpI X.2.2.2.2.2.1)) X.2.1 X.2.2.2.2.1 X.2.2.2.2.2.1) = _
        rw [g1]
        rfl
      have h2 : gM_let k1 k2 k3 k4 M (some q) = some (r, ((0, tr, -1), M.2.1, v', M.2.2.2.1, g', M.2.2.2.2.2.1, M.2.2.2.2.2.2.1, M.2.2.2.2.2.2.2), some q) := by
        show Option.map _ (f_X12_let k1 k2 k3 k4 M.1 M.2.2.1 M.2.2.2.2.1 q) = _
        rw [g2]
        rfl
      obtain ⟨r1, x1⟩ := Prod.mk.inj (Option.some.inj (ex.symm.trans h1))
      obtain ⟨r2, x2⟩ := Prod.mk.inj (Option.some.inj (em.symm.trans h2))
      obtain ⟨x2, -⟩ := Prod.mk.inj x2
      rw [x1, x2]
      exact ⟨⟨sp, de, ba, as, an, bi, cf, ct, t, hq, ht, hn', hh'⟩, r1.trans r2.symm⟩
  exact ⟨rx, X', rm, M', o, ex, em, ⟨hX', hM', ho, key.1, ⟨by rw [e3, e2]; exact hw.1, by rw [f_X10_where, if_neg e4, e5]⟩, by rw [e1, e2]; exact hT⟩, key.2⟩
theorem st_drawIn {k1 : Int32} {X : XS} {M : MS} {o : Option TX11_q} (hR : Rel X M o) : ∃ rx X' rm M' o', gX_drawIn k1 X = some (rx, X') ∧ gM_drawIn k1 M o = some (rm, M', o') ∧ Rel X' M' o' ∧ rx = rm := by
  obtain ⟨hX, hM, ho, hp, hw, hT⟩ := hR
  obtain ⟨rx, X', ex, hX', e1, e0, e3, e4⟩ := sx_drawIn (k1 := k1) hX
  obtain ⟨rm, M', em, hM', e2, e5⟩ := sm_drawIn (k1 := k1) hM ho
  have key : PO X'.2.1 X'.2.2.2.2.1 X'.2.2.2.2.2.1 X'.2.2.2.2.2.2.1 M'.2.2.1 M'.2.2.2.2.1 o ∧ rx = rm := by
    cases o with
    | none =>
      obtain ⟨x0, K0, h1⟩ : ∃ x0 K0, gX_drawIn k1 X = some (0, (x0, X.2.1, X.2.2.1, X.2.2.2.1, X.2.2.2.2.1, X.2.2.2.2.2.1, K0, X.2.2.2.2.2.2.2.1, X.2.2.2.2.2.2.2.2.1, X.2.2.2.2.2.2.2.2.2.1, X.2.2.2.2.2.2.2.2.2.2)) := ⟨_, _, by
        show Option.map _ (f_X10_drawIn k1 X.1 (X.2.2.2.2.2.2.1 (kpI X.2.2.2.2.2.1)) X.2.1 X.2.2.2.2.1 X.2.2.2.2.2.1) = _
        rw [zn_drawIn hp.1 k1 X.1 _ _ _]
        rfl⟩
      obtain ⟨t0, h2⟩ : ∃ t0, gM_drawIn k1 M none = some (0, (t0, M.2), none) := ⟨_, rfl⟩
      obtain ⟨r1, x1⟩ := Prod.mk.inj (Option.some.inj (ex.symm.trans h1))
      obtain ⟨r2, x2⟩ := Prod.mk.inj (Option.some.inj (em.symm.trans h2))
      obtain ⟨x2, -⟩ := Prod.mk.inj x2
      rw [x1, x2]
      exact ⟨hp, r1.trans r2.symm⟩
    | some q =>
      obtain ⟨sp, de, ba, as, an, bi, cf, ct, t, hq, ht, hn, hh⟩ := hp
      obtain ⟨r, tr, kn, n', h', v', g', g1, g2, hn', hh'⟩ := ac_drawIn hq hn ht hh k1 X.1 M.1
      have h1 : gX_drawIn k1 X = some (r, ((tr, X.1.2), X.2.1, X.2.2.1, X.2.2.2.1, n', h', updN X.2.2.2.2.2.2.1 (kpI X.2.2.2.2.2.1) kn, X.2.2.2.2.2.2.2.1, X.2.2.2.2.2.2.2.2.1, X.2.2.2.2.2.2.2.2.2.1, X.2.2.2.2.2.2.2.2.2.2)) := by
        show Option.map _ (f_X10_drawIn k1 X.1 (X.2.2.2.2.2.2.1 (kpI X.2.2.2.2.2.1)) X.2.1 X.2.2.2.2.1 X.2.2.2.2.2.1) = _
        rw [g1]
        rfl
      have h2 : gM_drawIn k1 M (some q) = some (r, ((0, tr, -1), M.2.1, v', M.2.2.2.1, g', M.2.2.2.2.2.1, M.2.2.2.2.2.2.1, M.2.2.2.2.2.2.2), some q) := by
        show Option.map _ (f_X12_drawIn k1 M.1 M.2.2.1 M.2.2.2.2.1 q) = _
        rw [g2]
        rfl
      obtain ⟨r1, x1⟩ := Prod.mk.inj (Option.some.inj (ex.symm.trans h1))
      obtain ⟨r2, x2⟩ := Prod.mk.inj (Option.some.inj (em.symm.trans h2))
      obtain ⟨x2, -⟩ := Prod.mk.inj x2
      rw [x1, x2]
      exact ⟨⟨sp, de, ba, as, an, bi, cf, ct, t, hq, ht, hn', hh'⟩, r1.trans r2.symm⟩
  exact ⟨rx, X', rm, M', o, ex, em, ⟨hX', hM', ho, key.1, ⟨by rw [e3, e2]; exact hw.1, by rw [f_X10_where, if_neg e4, e5]⟩, by rw [e1, e2]; exact hT⟩, key.2⟩
theorem st_sell {k1 : Int32} {X : XS} {M : MS} {o : Option TX11_q} (hR : Rel X M o) : ∃ rx X' rm M' o', gX_sell k1 X = some (rx, X') ∧ gM_sell k1 M o = some (rm, M', o') ∧ Rel X' M' o' ∧ rx = rm := by
  obtain ⟨hX, hM, ho, hp, hw, hT⟩ := hR
  obtain ⟨rx, X', ex, hX', e1, e0, e3, e4⟩ := sx_sell (k1 := k1) hX
  obtain ⟨rm, M', em, hM', e2, e5⟩ := sm_sell (k1 := k1) hM ho
  have key : PO X'.2.1 X'.2.2.2.2.1 X'.2.2.2.2.2.1 X'.2.2.2.2.2.2.1 M'.2.2.1 M'.2.2.2.2.1 o ∧ rx = rm := by
    cases o with
    | none =>
      obtain ⟨x0, K0, h1⟩ : ∃ x0 K0, gX_sell k1 X = some (-1, (x0, X.2.1, X.2.2.1, X.2.2.2.1, X.2.2.2.2.1, X.2.2.2.2.2.1, K0, X.2.2.2.2.2.2.2.1, X.2.2.2.2.2.2.2.2.1, X.2.2.2.2.2.2.2.2.2.1, X.2.2.2.2.2.2.2.2.2.2)) := ⟨_, _, by
        show Option.map _ (f_X10_sell k1 X.1 (X.2.2.2.2.2.2.1 (kpI X.2.2.2.2.2.1)) X.2.1 X.2.2.2.2.1 X.2.2.2.2.2.1) = _
        rw [zn_sell hp.1 k1 X.1 _ _ _]
        rfl⟩
      obtain ⟨t0, h2⟩ : ∃ t0, gM_sell k1 M none = some (-1, (t0, M.2), none) := ⟨_, rfl⟩
      obtain ⟨r1, x1⟩ := Prod.mk.inj (Option.some.inj (ex.symm.trans h1))
      obtain ⟨r2, x2⟩ := Prod.mk.inj (Option.some.inj (em.symm.trans h2))
      obtain ⟨x2, -⟩ := Prod.mk.inj x2
      rw [x1, x2]
      exact ⟨hp, r1.trans r2.symm⟩
    | some q =>
      obtain ⟨sp, de, ba, as, an, bi, cf, ct, t, hq, ht, hn, hh⟩ := hp
      obtain ⟨r, tr, kn, n', h', v', g', g1, g2, hn', hh'⟩ := ac_sell hq hn ht hh k1 X.1 M.1
      have h1 : gX_sell k1 X = some (r, ((tr, X.1.2), X.2.1, X.2.2.1, X.2.2.2.1, n', h', updN X.2.2.2.2.2.2.1 (kpI X.2.2.2.2.2.1) kn, X.2.2.2.2.2.2.2.1, X.2.2.2.2.2.2.2.2.1, X.2.2.2.2.2.2.2.2.2.1, X.2.2.2.2.2.2.2.2.2.2)) := by
        show Option.map _ (f_X10_sell k1 X.1 (X.2.2.2.2.2.2.1 (kpI X.2.2.2.2.2.1)) X.2.1 X.2.2.2.2.1 X.2.2.2.2.2.1) = _
        rw [g1]
        rfl
      have h2 : gM_sell k1 M (some q) = some (r, ((0, tr, -1), M.2.1, v', M.2.2.2.1, g', M.2.2.2.2.2.1, M.2.2.2.2.2.2.1, M.2.2.2.2.2.2.2), some q) := by
        show Option.map _ (f_X12_sell k1 M.1 M.2.2.1 M.2.2.2.2.1 q) = _
        rw [g2]
        rfl
      obtain ⟨r1, x1⟩ := Prod.mk.inj (Option.some.inj (ex.symm.trans h1))
      obtain ⟨r2, x2⟩ := Prod.mk.inj (Option.some.inj (em.symm.trans h2))
      obtain ⟨x2, -⟩ := Prod.mk.inj x2
      rw [x1, x2]
      exact ⟨⟨sp, de, ba, as, an, bi, cf, ct, t, hq, ht, hn', hh'⟩, r1.trans r2.symm⟩
  exact ⟨rx, X', rm, M', o, ex, em, ⟨hX', hM', ho, key.1, ⟨by rw [e3, e2]; exact hw.1, by rw [f_X10_where, if_neg e4, e5]⟩, by rw [e1, e2]; exact hT⟩, key.2⟩
theorem st_day {X : XS} {M : MS} {o : Option TX11_q} (hR : Rel X M o) : ∃ rx X' rm M' o', gX_day X = some (rx, X') ∧ gM_day M o = some (rm, M', o') ∧ Rel X' M' o' ∧ rx = rm := by
  obtain ⟨hX, hM, ho, hp, hw, hT⟩ := hR
  obtain ⟨rx, X', ex, hX', e1, e0, e3, e4⟩ := sx_day  hX
  obtain ⟨rm, M', em, hM', e2, e5⟩ := sm_day  hM ho
  have key : PO X'.2.1 X'.2.2.2.2.1 X'.2.2.2.2.2.1 X'.2.2.2.2.2.2.1 M'.2.2.1 M'.2.2.2.2.1 o ∧ rx = rm := by
    cases o with
    | none =>
      obtain ⟨x0, K0, h1⟩ : ∃ x0 K0, gX_day X = some (-1, (x0, X.2.1, X.2.2.1, X.2.2.2.1, X.2.2.2.2.1, X.2.2.2.2.2.1, K0, X.2.2.2.2.2.2.2.1, X.2.2.2.2.2.2.2.2.1, X.2.2.2.2.2.2.2.2.2.1, X.2.2.2.2.2.2.2.2.2.2)) := ⟨_, _, by
        show Option.map _ (f_X10_day X.1 (X.2.2.2.2.2.2.1 (kpI X.2.2.2.2.2.1)) X.2.1 X.2.2.2.2.1 X.2.2.2.2.2.1 X.2.2.2.2.2.2.2.2.2.1) = _
        rw [zn_day hp.1 X.1 _ _ _ _]
        rfl⟩
      obtain ⟨t0, h2⟩ : ∃ t0, gM_day M none = some (-1, (t0, M.2), none) := ⟨_, rfl⟩
      obtain ⟨r1, x1⟩ := Prod.mk.inj (Option.some.inj (ex.symm.trans h1))
      obtain ⟨r2, x2⟩ := Prod.mk.inj (Option.some.inj (em.symm.trans h2))
      obtain ⟨x2, -⟩ := Prod.mk.inj x2
      rw [x1, x2]
      exact ⟨hp, r1.trans r2.symm⟩
    | some q =>
      obtain ⟨sp, de, ba, as, an, bi, cf, ct, t, hq, ht, hn, hh⟩ := hp
      obtain ⟨r, tr, kn, n', h', y', v', g', c', t', g1, g2, ht', hn', hh'⟩ := ac_day hq hn ht hh X.1 X.2.2.2.2.2.2.2.2.2.1 M.1 M.2.2.2.2.2.2.2
      have h1 : gX_day X = some (r, ((tr, X.1.2), X.2.1, X.2.2.1, X.2.2.2.1, n', h', updN X.2.2.2.2.2.2.1 (kpI X.2.2.2.2.2.1) kn, X.2.2.2.2.2.2.2.1, X.2.2.2.2.2.2.2.2.1, y', X.2.2.2.2.2.2.2.2.2.2)) := by
        show Option.map _ (f_X10_day X.1 (X.2.2.2.2.2.2.1 (kpI X.2.2.2.2.2.1)) X.2.1 X.2.2.2.2.1 X.2.2.2.2.2.1 X.2.2.2.2.2.2.2.2.2.1) = _
        rw [g1]
        rfl
      have h2 : gM_day M (some q) = some (r, ((0, tr, -1), M.2.1, v', M.2.2.2.1, g', M.2.2.2.2.2.1, M.2.2.2.2.2.2.1, c'), some q) := by
        show Option.map _ (f_X12_day M.1 M.2.2.1 M.2.2.2.2.1 M.2.2.2.2.2.2.2 q) = _
        rw [g2]
        rfl
      obtain ⟨r1, x1⟩ := Prod.mk.inj (Option.some.inj (ex.symm.trans h1))
      obtain ⟨r2, x2⟩ := Prod.mk.inj (Option.some.inj (em.symm.trans h2))
      obtain ⟨x2, -⟩ := Prod.mk.inj x2
      rw [x1, x2]
      exact ⟨⟨sp, de, ba, as, an, bi, cf, ct, t', hq, ht', hn', hh'⟩, r1.trans r2.symm⟩
  exact ⟨rx, X', rm, M', o, ex, em, ⟨hX', hM', ho, key.1, ⟨by rw [e3, e2]; exact hw.1, by rw [f_X10_where, if_neg e4, e5]⟩, by rw [e1, e2]; exact hT⟩, key.2⟩
theorem st_seed {k1 : Int32} {X : XS} {M : MS} {o : Option TX11_q} (hR : Rel X M o) : ∃ rx X' rm M' o', gX_seed k1 X = some (rx, X') ∧ gM_seed k1 M o = some (rm, M', o') ∧ Rel X' M' o' ∧ rx = rm := by
  obtain ⟨hX, hM, ho, hp, hw, hT⟩ := hR
  obtain ⟨rx, X', ex, hX', e1, e0, e3, e4⟩ := sx_seed (k1 := k1) hX
  obtain ⟨rm, M', em, hM', e2, e5⟩ := sm_seed (k1 := k1) hM ho
  have key : PO X'.2.1 X'.2.2.2.2.1 X'.2.2.2.2.2.1 X'.2.2.2.2.2.2.1 M'.2.2.1 M'.2.2.2.2.1 o ∧ rx = rm := by
    cases o with
    | none =>
      obtain ⟨x0, K0, h1⟩ : ∃ x0 K0, gX_seed k1 X = some (0, (x0, X.2.1, X.2.2.1, X.2.2.2.1, X.2.2.2.2.1, X.2.2.2.2.2.1, K0, X.2.2.2.2.2.2.2.1, X.2.2.2.2.2.2.2.2.1, X.2.2.2.2.2.2.2.2.2.1, X.2.2.2.2.2.2.2.2.2.2)) := ⟨_, _, by
        show Option.map _ (some (f_X10_seed k1 X.1 X.2.1 X.2.2.2.2.1)) = _
        rw [zn_seed hp.1 k1 X.1 _]
        rfl⟩
      obtain ⟨t0, h2⟩ : ∃ t0, gM_seed k1 M none = some (0, (t0, M.2), none) := ⟨_, rfl⟩
      obtain ⟨r1, x1⟩ := Prod.mk.inj (Option.some.inj (ex.symm.trans h1))
      obtain ⟨r2, x2⟩ := Prod.mk.inj (Option.some.inj (em.symm.trans h2))
      obtain ⟨x2, -⟩ := Prod.mk.inj x2
      rw [x1, x2]
      exact ⟨hp, r1.trans r2.symm⟩
    | some q =>
      obtain ⟨sp, de, ba, as, an, bi, cf, ct, t, hq, ht, hn, hh⟩ := hp
      obtain ⟨r, tr, n', v', g1, g2, hn'⟩ := ac_seed hq hn k1 X.1 M.1
      have h1 : gX_seed k1 X = some (r, ((tr, X.1.2), X.2.1, X.2.2.1, X.2.2.2.1, n', X.2.2.2.2.2.1, X.2.2.2.2.2.2.1, X.2.2.2.2.2.2.2.1, X.2.2.2.2.2.2.2.2.1, X.2.2.2.2.2.2.2.2.2.1, X.2.2.2.2.2.2.2.2.2.2)) := by
        show Option.map _ (some (f_X10_seed k1 X.1 X.2.1 X.2.2.2.2.1)) = _
        rw [g1]
        rfl
      have h2 : gM_seed k1 M (some q) = some (r, ((0, tr, -1), M.2.1, v', M.2.2.2.1, M.2.2.2.2.1, M.2.2.2.2.2.1, M.2.2.2.2.2.2.1, M.2.2.2.2.2.2.2), some q) := by
        rw [gM_seed, g2]
        rfl
      obtain ⟨r1, x1⟩ := Prod.mk.inj (Option.some.inj (ex.symm.trans h1))
      obtain ⟨r2, x2⟩ := Prod.mk.inj (Option.some.inj (em.symm.trans h2))
      obtain ⟨x2, -⟩ := Prod.mk.inj x2
      rw [x1, x2]
      exact ⟨⟨sp, de, ba, as, an, bi, cf, ct, t, hq, ht, hn', hh⟩, r1.trans r2.symm⟩
  exact ⟨rx, X', rm, M', o, ex, em, ⟨hX', hM', ho, key.1, ⟨by rw [e3, e2]; exact hw.1, by rw [f_X10_where, if_neg e4, e5]⟩, by rw [e1, e2]; exact hT⟩, key.2⟩
theorem st_undo {X : XS} {M : MS} {o : Option TX11_q} (hR : Rel X M o) : ∃ rx X' rm M' o', gX_undo X = some (rx, X') ∧ gM_undo M o = some (rm, M', o') ∧ Rel X' M' o' ∧ rx = rm := by
  obtain ⟨hX, hM, ho, hp, hw, hT⟩ := hR
  obtain ⟨rx, X', ex, hX', e1, e0, e3, e4⟩ := sx_undo  hX
  obtain ⟨rm, M', em, hM', e2, e5⟩ := sm_undo  hM ho
  have key : PO X'.2.1 X'.2.2.2.2.1 X'.2.2.2.2.2.1 X'.2.2.2.2.2.2.1 M'.2.2.1 M'.2.2.2.2.1 o ∧ rx = rm := by
    cases o with
    | none =>
      obtain ⟨x0, K0, h1⟩ : ∃ x0 K0, gX_undo X = some (0, (x0, X.2.1, X.2.2.1, X.2.2.2.1, X.2.2.2.2.1, X.2.2.2.2.2.1, K0, X.2.2.2.2.2.2.2.1, X.2.2.2.2.2.2.2.2.1, X.2.2.2.2.2.2.2.2.2.1, X.2.2.2.2.2.2.2.2.2.2)) := ⟨_, _, by
        show Option.map _ (f_X10_undo X.1 (X.2.2.2.2.2.2.1 (kuI X.2.2.2.2.2.1)) X.2.2.2.2.1 X.2.2.2.2.2.1) = _
        rw [zn_undo hp.2.2.2.2.1 X.1 _ _]
        rfl⟩
      obtain ⟨t0, h2⟩ : ∃ t0, gM_undo M none = some (0, (t0, M.2), none) := ⟨_, rfl⟩
      obtain ⟨r1, x1⟩ := Prod.mk.inj (Option.some.inj (ex.symm.trans h1))
      obtain ⟨r2, x2⟩ := Prod.mk.inj (Option.some.inj (em.symm.trans h2))
      obtain ⟨x2, -⟩ := Prod.mk.inj x2
      rw [x1, x2]
      exact ⟨hp, r1.trans r2.symm⟩
    | some q =>
      obtain ⟨sp, de, ba, as, an, bi, cf, ct, t, hq, ht, hn, hh⟩ := hp
      obtain ⟨r, tr, n', h', v', g', t', g1, g2, ht', hn', hh'⟩ := ac_undo hn ht hh X.1 M.1
      have h1 : gX_undo X = some (r, ((tr, X.1.2), X.2.1, X.2.2.1, X.2.2.2.1, n', h', X.2.2.2.2.2.2.1, X.2.2.2.2.2.2.2.1, X.2.2.2.2.2.2.2.2.1, X.2.2.2.2.2.2.2.2.2.1, X.2.2.2.2.2.2.2.2.2.2)) := by
        show Option.map _ (f_X10_undo X.1 (X.2.2.2.2.2.2.1 (kuI X.2.2.2.2.2.1)) X.2.2.2.2.1 X.2.2.2.2.2.1) = _
        rw [g1]
        rfl
      have h2 : gM_undo M (some q) = some (r, ((0, tr, -1), M.2.1, v', M.2.2.2.1, g', M.2.2.2.2.2.1, M.2.2.2.2.2.2.1, M.2.2.2.2.2.2.2), some q) := by
        show Option.map _ (f_X12_undo M.1 M.2.2.1 M.2.2.2.2.1) = _
        rw [g2]
        rfl
      obtain ⟨r1, x1⟩ := Prod.mk.inj (Option.some.inj (ex.symm.trans h1))
      obtain ⟨r2, x2⟩ := Prod.mk.inj (Option.some.inj (em.symm.trans h2))
      obtain ⟨x2, -⟩ := Prod.mk.inj x2
      rw [x1, x2]
      exact ⟨⟨sp, de, ba, as, an, bi, cf, ct, t', hq, ht', hn', hh'⟩, r1.trans r2.symm⟩
  exact ⟨rx, X', rm, M', o, ex, em, ⟨hX', hM', ho, key.1, ⟨by rw [e3, e2]; exact hw.1, by rw [f_X10_where, if_neg e4, e5]⟩, by rw [e1, e2]; exact hT⟩, key.2⟩
theorem st_mark {X : XS} {M : MS} {o : Option TX11_q} (hR : Rel X M o) : ∃ rx X' rm M' o', gX_mark X = some (rx, X') ∧ gM_mark M o = some (rm, M', o') ∧ Rel X' M' o' ∧ rx = rm := by
  obtain ⟨hX, hM, ho, hp, hw, hT⟩ := hR
  obtain ⟨rx, X', ex, hX', e1, e0, e3, e4⟩ := sx_mark  hX
  obtain ⟨rm, M', em, hM', e2, e5⟩ := sm_mark  hM ho
  have key : PO X'.2.1 X'.2.2.2.2.1 X'.2.2.2.2.2.1 X'.2.2.2.2.2.2.1 M'.2.2.1 M'.2.2.2.2.1 o ∧ rx = rm := by
    cases o with
    | none =>
      obtain ⟨x0, K0, h1⟩ : ∃ x0 K0, gX_mark X = some (-1, (x0, X.2.1, X.2.2.1, X.2.2.2.1, X.2.2.2.2.1, X.2.2.2.2.2.1, K0, X.2.2.2.2.2.2.2.1, X.2.2.2.2.2.2.2.2.1, X.2.2.2.2.2.2.2.2.2.1, X.2.2.2.2.2.2.2.2.2.2)) := ⟨_, _, by
        show Option.map _ (f_X10_mark X.1 (X.2.2.2.2.2.2.1 (16 + X.2.2.2.2.2.1.2.2.toNatClampNeg % 3)) X.2.1 X.2.2.2.2.1 X.2.2.2.2.2.1) = _
        rw [zn_mark hp.1 X.1 _ _ _]
        rfl⟩
      obtain ⟨t0, h2⟩ : ∃ t0, gM_mark M none = some (-1, (t0, M.2), none) := ⟨_, rfl⟩
      obtain ⟨r1, x1⟩ := Prod.mk.inj (Option.some.inj (ex.symm.trans h1))
      obtain ⟨r2, x2⟩ := Prod.mk.inj (Option.some.inj (em.symm.trans h2))
      obtain ⟨x2, -⟩ := Prod.mk.inj x2
      rw [x1, x2]
      exact ⟨hp, r1.trans r2.symm⟩
    | some q =>
      obtain ⟨sp, de, ba, as, an, bi, cf, ct, t, hq, ht, hn, hh⟩ := hp
      obtain ⟨r, tr, kn, h', g', g1, g2, hh'⟩ := ac_mark hq hn ht hh X.1 M.1
      have h1 : gX_mark X = some (r, ((tr, X.1.2), X.2.1, X.2.2.1, X.2.2.2.1, X.2.2.2.2.1, h', updN X.2.2.2.2.2.2.1 (16 + X.2.2.2.2.2.1.2.2.toNatClampNeg % 3) kn, X.2.2.2.2.2.2.2.1, X.2.2.2.2.2.2.2.2.1, X.2.2.2.2.2.2.2.2.2.1, X.2.2.2.2.2.2.2.2.2.2)) := by
        show Option.map _ (f_X10_mark X.1 (X.2.2.2.2.2.2.1 (16 + X.2.2.2.2.2.1.2.2.toNatClampNeg % 3)) X.2.1 X.2.2.2.2.1 X.2.2.2.2.2.1) = _
        rw [g1]
        rfl
      have h2 : gM_mark M (some q) = some (r, ((0, tr, -1), M.2.1, M.2.2.1, M.2.2.2.1, g', M.2.2.2.2.2.1, M.2.2.2.2.2.2.1, M.2.2.2.2.2.2.2), some q) := by
        show Option.map _ (f_X12_mark M.1 M.2.2.1 M.2.2.2.2.1) = _
        rw [g2]
        rfl
      obtain ⟨r1, x1⟩ := Prod.mk.inj (Option.some.inj (ex.symm.trans h1))
      obtain ⟨r2, x2⟩ := Prod.mk.inj (Option.some.inj (em.symm.trans h2))
      obtain ⟨x2, -⟩ := Prod.mk.inj x2
      rw [x1, x2]
      exact ⟨⟨sp, de, ba, as, an, bi, cf, ct, t, hq, ht, hn, hh'⟩, r1.trans r2.symm⟩
  exact ⟨rx, X', rm, M', o, ex, em, ⟨hX', hM', ho, key.1, ⟨by rw [e3, e2]; exact hw.1, by rw [f_X10_where, if_neg e4, e5]⟩, by rw [e1, e2]; exact hT⟩, key.2⟩
theorem st_back {k1 : Int32} {X : XS} {M : MS} {o : Option TX11_q} (hR : Rel X M o) : ∃ rx X' rm M' o', gX_back k1 X = some (rx, X') ∧ gM_back k1 M o = some (rm, M', o') ∧ Rel X' M' o' ∧ rx = rm := by
  obtain ⟨hX, hM, ho, hp, hw, hT⟩ := hR
  obtain ⟨rx, X', ex, hX', e1, e0, e3, e4⟩ := sx_back (k1 := k1) hX
  obtain ⟨rm, M', em, hM', e2, e5⟩ := sm_back (k1 := k1) hM ho
  have key : PO X'.2.1 X'.2.2.2.2.1 X'.2.2.2.2.2.1 X'.2.2.2.2.2.2.1 M'.2.2.1 M'.2.2.2.2.1 o ∧ rx = rm := by
    cases o with
    | none =>
      obtain ⟨x0, K0, h1⟩ : ∃ x0 K0, gX_back k1 X = some (0, (x0, X.2.1, X.2.2.1, X.2.2.2.1, X.2.2.2.2.1, X.2.2.2.2.2.1, K0, X.2.2.2.2.2.2.2.1, X.2.2.2.2.2.2.2.2.1, X.2.2.2.2.2.2.2.2.2.1, X.2.2.2.2.2.2.2.2.2.2)) := ⟨_, _, by
        show Option.map _ (f_X10_back k1 X.1 (X.2.2.2.2.2.2.1 (16 + (k1).toNatClampNeg % 3)) X.2.2.2.2.1 X.2.2.2.2.2.1) = _
        rw [zn_back hp.2.2.2.2.2 k1 X.1 _ _]
        rfl⟩
      obtain ⟨t0, h2⟩ : ∃ t0, gM_back k1 M none = some (0, (t0, M.2), none) := ⟨_, rfl⟩
      obtain ⟨r1, x1⟩ := Prod.mk.inj (Option.some.inj (ex.symm.trans h1))
      obtain ⟨r2, x2⟩ := Prod.mk.inj (Option.some.inj (em.symm.trans h2))
      obtain ⟨x2, -⟩ := Prod.mk.inj x2
      rw [x1, x2]
      exact ⟨hp, r1.trans r2.symm⟩
    | some q =>
      obtain ⟨sp, de, ba, as, an, bi, cf, ct, t, hq, ht, hn, hh⟩ := hp
      obtain ⟨r, tr, n', h', v', g', t', g1, g2, ht', hn', hh'⟩ := ac_back hn ht hh k1 X.1 M.1
      have h1 : gX_back k1 X = some (r, ((tr, X.1.2), X.2.1, X.2.2.1, X.2.2.2.1, n', h', X.2.2.2.2.2.2.1, X.2.2.2.2.2.2.2.1, X.2.2.2.2.2.2.2.2.1, X.2.2.2.2.2.2.2.2.2.1, X.2.2.2.2.2.2.2.2.2.2)) := by
        show Option.map _ (f_X10_back k1 X.1 (X.2.2.2.2.2.2.1 (16 + (k1).toNatClampNeg % 3)) X.2.2.2.2.1 X.2.2.2.2.2.1) = _
        rw [g1]
        rfl
      have h2 : gM_back k1 M (some q) = some (r, ((0, tr, -1), M.2.1, v', M.2.2.2.1, g', M.2.2.2.2.2.1, M.2.2.2.2.2.2.1, M.2.2.2.2.2.2.2), some q) := by
        show Option.map _ (f_X12_back k1 M.1 M.2.2.1 M.2.2.2.2.1) = _
        rw [g2]
        rfl
      obtain ⟨r1, x1⟩ := Prod.mk.inj (Option.some.inj (ex.symm.trans h1))
      obtain ⟨r2, x2⟩ := Prod.mk.inj (Option.some.inj (em.symm.trans h2))
      obtain ⟨x2, -⟩ := Prod.mk.inj x2
      rw [x1, x2]
      exact ⟨⟨sp, de, ba, as, an, bi, cf, ct, t', hq, ht', hn', hh'⟩, r1.trans r2.symm⟩
  exact ⟨rx, X', rm, M', o, ex, em, ⟨hX', hM', ho, key.1, ⟨by rw [e3, e2]; exact hw.1, by rw [f_X10_where, if_neg e4, e5]⟩, by rw [e1, e2]; exact hT⟩, key.2⟩
theorem st_size {k1 : Int32} {X : XS} {M : MS} {o : Option TX11_q} (hR : Rel X M o) : ∃ rx X' rm M' o', gX_size k1 X = some (rx, X') ∧ gM_size k1 M o = some (rm, M', o') ∧ Rel X' M' o' ∧ True := by
  obtain ⟨hX, hM, ho, hp, hw, hT⟩ := hR
  obtain ⟨rx, X', ex, hX', e1, e0, e3, en, eh, eK⟩ := sx_size (k1 := k1) hX
  obtain ⟨rm, M', em, hM', e2, e5, ev, eg⟩ := sm_size (k1 := k1) hM ho
  exact ⟨rx, X', rm, M', o, ex, em, ⟨hX', hM', ho, by rw [e0, en, eh, eK, ev, eg]; exact hp, ⟨by rw [e3, e2]; exact hw.1, by rw [e3, e1, e5]; exact hw.2⟩, by rw [e1, e2]; exact hT⟩, trivial⟩
theorem st_trouble {X : XS} {M : MS} {o : Option TX11_q} (hR : Rel X M o) : ∃ rx X' rm M' o', gX_trouble X = some (rx, X') ∧ gM_trouble M o = some (rm, M', o') ∧ Rel X' M' o' ∧ True := by
  obtain ⟨hX, hM, ho, hp, hw, hT⟩ := hR
  obtain ⟨rx, X', ex, hX', e1, e0, e3, en, eh, eK⟩ := sx_trouble  hX
  obtain ⟨rm, M', em, hM', e2, e5, ev, eg⟩ := sm_trouble  hM ho
  exact ⟨rx, X', rm, M', o, ex, em, ⟨hX', hM', ho, by rw [e0, en, eh, eK, ev, eg]; exact hp, ⟨by rw [e3, e2]; exact hw.1, by rw [e3, e1, e5]; exact hw.2⟩, by rw [e1, e2]; exact hT⟩, trivial⟩
theorem st_feed {k1 k2 k3 k4 k5 : Int32} {X : XS} {M : MS} {o : Option TX11_q} (hR : Rel X M o) : ∃ rx X' rm M' o', gX_feed k1 k2 k3 k4 k5 X = some (rx, X') ∧ gM_feed k1 k2 k3 k4 k5 M o = some (rm, M', o') ∧ Rel X' M' o' ∧ rx = rm := by
  obtain ⟨x, p, p2, r, R⟩ := X
  obtain ⟨t, s, R2⟩ := M
  obtain ⟨hX, hM, ho, hp, hw, T, f, tl, ts, hT, hf, er, es⟩ := hR
  dsimp only at er es
  subst er es
  obtain ⟨v, T', f', e1, e2, h3, h4⟩ := feed_both (k1 := k1) (k2 := k2) (k3 := k3) (k4 := k4) (k5 := k5) (t := t) (tl := tl) (ts := ts) hT hf
  have ex : gX_feed k1 k2 k3 k4 k5 (x, p, p2, (T, nI f, tl), R) = some (v, (x, p, p2, (T', nI f', tl), R)) := by
    rw [gX_feed]
    show Option.map _ (f_X10_feed k1 k2 k3 k4 k5 (T, nI f, tl)) = _
    rw [e1]
    rfl
  have em : gM_feed k1 k2 k3 k4 k5 (t, (T, nI f, ts), R2) o = some (v, ((0, t.2), (T', nI f', ts), R2), o) := by
    rw [gM_feed]
    show Option.map _ (f_X12_feed k1 k2 k3 k4 k5 t (T, nI f, ts)) = _
    rw [e2]
    rfl
  exact ⟨v, _, v, _, o, ex, em, ⟨hX, hM, ho, hp, ⟨hw.1, hw.2⟩, T', f', tl, ts, h4, h3, rfl, rfl⟩, rfl⟩
theorem st_pier {k1 : Int32} {X : XS} {M : MS} {o : Option TX11_q} (hR : Rel X M o) : ∃ rx X' rm M' o', gX_pier k1 X = some (rx, X') ∧ gM_pier k1 M o = some (rm, M', o') ∧ Rel X' M' o' ∧ rx = rm := by
  obtain ⟨hX, hM, ho, hp, hw, T, f, tl, ts, hT, hf, er, es⟩ := hR
  have ef : X.2.2.2.1.2.1 = nI f := by rw [er]
  by_cases hb : k1 < 0 ∨ X.2.2.2.1.2.1 < k1
  · obtain ⟨ex, em⟩ := pier_bad (o := o) (show X.2.2.2.1.2.1 = M.2.1.2.1 by rw [er, es]) hb
    exact ⟨_, _, _, _, o, ex, em, ⟨hX, hM, ho, hp, ⟨hw.1, if_neg (show ¬ (2 : Int32) = 4 by decide)⟩, T, f, tl, ts, hT, hf, er, es⟩, rfl⟩
  · obtain ⟨e, he, rfl⟩ := nI_of (fun z => hb (Or.inl z))
    have hef : e ≤ f := by
      have h2 : ¬ X.2.2.2.1.2.1 < nI e := fun z => hb (Or.inr z)
      rw [ef, nI_ltI (by omega) he] at h2
      omega
    rcases pier_read (o := o) hT hf hef er es with ⟨k, z, p2, tl', ts', -, -, hz, hk, ex, em⟩ | ⟨p', q', n1, nb, N, tl', ts', st, li, v', hP, hb', hk, hst, hli, hv', ex, em⟩
    · exact ⟨_, _, _, _, o, ex, em, ⟨hX, hM, ho, hp, ⟨hk.symm, (if_pos rfl).trans hz⟩, T, 0, tl', ts', hT, by omega, rfl, rfl⟩, rfl⟩
    · obtain ⟨⟨b1, b2, b3, b4, b5, b6⟩, bq⟩ := pr_bounds hP hb'
      refine ⟨_, _, _, _, some q', ex, em, ⟨⟨b1, b2, b3, b4, b5, b6, hX.2.2.2.2.2.2.1, r32_0 (by decide), r32_0 (by decide), hX.2.2.2.2.2.2.2.2.2⟩, ⟨r32_0 (by decide), r32_0 (by decide)⟩, bq, po_new hP hb' hX hst hli hv', ⟨hk.symm, if_neg (show ¬ (0 : Int32) = 4 by decide)⟩, T, 0, tl', ts', hT, by omega, rfl, rfl⟩, pr_an hP⟩
theorem st_led {k1 : Int32} {X : XS} {M : MS} {o : Option TX11_q} (hR : Rel X M o) : ∃ an, an ≤ 6 ∧ X.2.1.2.2.2.2.2.2.1 = nI an ∧ ∃ rm M', gM_led k1 M o = some (rm, M', o) ∧ Rel X M' o := by
  obtain ⟨hX, hM, ho, hp, hw, hT⟩ := hR
  obtain ⟨rm, M', em, hM', e2, e5, ev, eg⟩ := sm_led (k1 := k1) hM ho
  obtain ⟨b1, b2⟩ := hX.2.2.2.2.1
  obtain ⟨an, h1, h2⟩ := nI_of (x := X.2.1.2.2.2.2.2.2.1) (by rw [fa_lt, ltv_0]; omega)
  rw [h2, nI_toInt h1] at b2
  exact ⟨an, by omega, h2, rm, M', em, hX, hM', ho, by rw [ev, eg]; exact hp, ⟨by rw [e2]; exact hw.1, by rw [e5]; exact hw.2⟩, by rw [e2]; exact hT⟩
