/-! pier(n): both refuse, both find the same fault, or both have the same pier -/
theorem pier_bad {k1 : Int32} {X : XS} {M : MS} {o : Option TX11_q} (e : X.2.2.2.1.2.1 = M.2.1.2.1) (h : k1 < 0 ∨ X.2.2.2.1.2.1 < k1) : gX_pier k1 X = some (-1, ((2, X.1.2), X.2)) ∧ gM_pier k1 M o = some (-1, ((0, 2, -1), M.2), o) := by
  constructor
  · have hw : f_X10_within k1 0 X.2.2.2.1.2.1 = 0 := by
      unfold f_X10_within
      by_cases c : k1 < 0
      · rw [if_pos c]
      · rw [if_neg c, if_pos (h.resolve_left c)]
    have hf : f_X10_pier k1 X.1 X.2.2.1 X.2.2.2.1 X.2.2.2.2.1 X.2.2.2.2.2.1 0 1 = some (-1, (2, X.1.2), 1, 0, X.2.2.1, X.2.2.2.1, X.2.2.2.2.1, X.2.2.2.2.2.1) := by
      rw [f_X10_pier, nm, hw, if_pos rfl, f_X10_pier_J21, nm]
      rfl
    rw [gX_pier, hf]
    rfl
  · have hr : f_X12_pier_r k1 M.1 M.2.1 = some (0, 2, -1) := by
      rw [f_X12_pier_r]
      by_cases c : k1 < 0
      · rw [if_pos c]
        rfl
      · have h2 := h.resolve_left c
        rw [e] at h2
        rw [if_neg c, if_neg (show ¬ k1 ≤ M.2.1.2.1 by rw [fa_lt] at h2; rw [fa_le]; omega)]
        rfl
    rw [gM_pier, hr]
theorem gMp_f {k1 : Int32} {M : MS} {o : Option TX11_q} {out : TX12_t × TX12_s × TX11_q} (hr : f_X12_pier_r k1 M.1 M.2.1 = none) (hf : f_X12_pier_f k1 M.1 M.2.1 = some out) : gM_pier k1 M o = some (-1, (out.1, out.2.1, M.2.2), o) := by
  rw [gM_pier, hr, hf]
theorem gMp_o {k1 : Int32} {M : MS} {o : Option TX11_q} {out : Int32 × TX12_t × TX12_s × TX12_v × TX12_h × TX11_q} (hr : f_X12_pier_r k1 M.1 M.2.1 = none) (hf : f_X12_pier_f k1 M.1 M.2.1 = none) (ho : f_X12_pier_o k1 M.1 M.2.1 M.2.2.1 M.2.2.2.2.1 = some out) : gM_pier k1 M o = some (out.1, (out.2.1, out.2.2.1, out.2.2.2.1, M.2.2.2.1, out.2.2.2.2.1, M.2.2.2.2.2), some out.2.2.2.2.2) := by
  rw [gM_pier, hr, hf, ho]
  rfl
theorem pier_read {T : Nat → Int32} {f e : Nat} {tl : TR7} {ts : TS12} {X : XS} {M : MS} {o : Option TX11_q} (hT : ∀ j, byt (T j)) (hf : f ≤ 900) (he : e ≤ f) (hr : X.2.2.2.1 = (T, nI f, tl)) (hs : M.2.1 = (T, nI f, ts)) :
    (∃ (k : Int32) (z : Nat) (p2 : TX6_p) (tl' : TR7) (ts' : TS12), (1 ≤ k.toInt ∧ k.toInt ≤ 6) ∧ z ≤ e ∧ tl'.2.2.2.2.2.2.2.2.2 = nI z ∧ ts'.2.2.2.2.2.1 = k ∧ gX_pier (nI e) X = some (-1, ((4, k), X.2.1, p2, (T, 0, tl'), X.2.2.2.2)) ∧ gM_pier (nI e) M o = some (-1, ((0, 4, nI z), (T, 0, ts'), M.2.2), o)) ∨
    (∃ (p' : TX6_p) (q' : TX11_q) (n1 : Nat → Int64) (nb : Nat → Int32) (N : Nat) (tl' : TR7) (ts' : TS12) (st li v' : Nat → Int32), PR p' q' n1 nb N ∧ ¬ qBa q' = 0 ∧ ts'.2.2.2.2.2.1 = 0 ∧ (∀ j, j < 6 → st j = 0) ∧ (∀ j, j < 5 → li j = -1) ∧ vrow v' ∧ gX_pier (nI e) X = some (pAn p', ((0, 0), p', X.2.1, (T, 0, tl'), (0, 0, 0, st, X.2.2.2.2.1.2.2.2.2.1, X.2.2.2.2.1.2.2.2.2.2.1, li), (X.2.2.2.2.2.1.1, 0, 0), X.2.2.2.2.2.2)) ∧ gM_pier (nI e) M o = some (qAn q', ((0, 0, -1), (T, 0, ts'), v', M.2.2.2.1, (M.2.2.2.2.1.1, M.2.2.2.2.1.2.1, 0, 0), M.2.2.2.2.2), some q')) := by
  obtain ⟨x, p, p2, r, n, h, R⟩ := X
  obtain ⟨t, s, v, w, mh, R2⟩ := M
  obtain ⟨en, tok, st0, bh, vv, n1, nb, ns, fa, pl⟩ := tl
  obtain ⟨msz, msp, mso', mpl, mnu, mfa, mwr, mwo⟩ := ts
  dsimp only at hr hs ⊢
  subst hr hs
  have hc1 : ¬ nI e < (0 : Int32) := nI_pos (by omega)
  have hc2 : nI e ≤ nI f := nI_le he (by omega)
  have hc3 : ¬ nI f < nI e := nI_nlt he (by omega)
  have hw : f_X10_within (nI e) 0 (nI f) = 1 := by
    unfold f_X10_within
    rw [if_neg hc1, if_neg hc3]
  have hX : f_X10_pier (nI e) x p2 (T, nI f, en, tok, st0, bh, vv, n1, nb, ns, fa, pl) n h 0 1 = (f_X7_read (nI e) (T, nI f, en, tok, st0, bh, vv, n1, nb, ns, fa, pl) p2).bind fun o38 => if o38.1 = (0 : Int32) then f_X10_pier_J63 n h 0 1 (0, (0, x.2)) o38 4 else f_X10_pier_J63 n h 0 1 (0, (0, x.2)) o38 0 := by
    rw [f_X10_pier, nm]
    show (if f_X10_within (nI e) 0 (nI f) = 0 then _ else _) = _
    rw [hw, if_neg one_ne, f_X10_pier_J21, nm]
    rfl
  have hy : ∀ {β : Type} (K : TX12_s × TX11_q → Option β), ((f_X12_goesOn (T, 0, nI e, 0, 0, mpl, mnu, 0, mwr, mwo)).bind fun (o60 : TX12_s) => (f_X12_readAll o60 iX11).bind K) = ((f_X12_goesOn (T, 0, nI e, 0, 0, mpl, mnu, 0, mwr, mwo)).bind fun (o60 : TX12_s) => f_X12_readAll o60 q0).bind K := fun K => by
    rw [Option.bind_assoc]
    rfl
  have hMr : f_X12_pier_r (nI e) t (T, nI f, msz, msp, mso', mpl, mnu, mfa, mwr, mwo) = none := by
    rw [f_X12_pier_r, if_neg hc1]
    show (if nI e ≤ nI f then none else _) = _
    rw [if_pos hc2]
  have hMf : f_X12_pier_f (nI e) t (T, nI f, msz, msp, mso', mpl, mnu, mfa, mwr, mwo) = ((f_X12_goesOn (T, 0, nI e, 0, 0, mpl, mnu, 0, mwr, mwo)).bind fun (o60 : TX12_s) => f_X12_readAll o60 q0).bind fun (o64 : (TX12_s × TX11_q)) => (if o64.1.2.2.2.2.2.2.2.1 ≤ (0 : Int32) then none else (some (((0 : Int32), (4 : Int32), o64.1.2.2.2.2.2.2.2.2.1), o64.1, o64.2))) := by
    rw [f_X12_pier_f, if_neg hc1]
    show (if nI e ≤ nI f then _ else none) = _
    rw [if_pos hc2]
    exact hy _
  have hMo : f_X12_pier_o (nI e) t (T, nI f, msz, msp, mso', mpl, mnu, mfa, mwr, mwo) v mh = ((f_X12_goesOn (T, 0, nI e, 0, 0, mpl, mnu, 0, mwr, mwo)).bind fun (o60 : TX12_s) => f_X12_readAll o60 q0).bind fun (o64 : (TX12_s × TX11_q)) => (if o64.1.2.2.2.2.2.2.2.1 ≤ (0 : Int32) then (f_X12_pier_o_L99 t mh o64 FU (0 : Int32) v) else none) := by
    rw [f_X12_pier_o, if_neg hc1]
    show (if nI e ≤ nI f then _ else none) = _
    rw [if_pos hc2]
    exact hy _
  rcases read_all (T := T) (a := 0) (f := f) (n := e) (tok := tok) (st := st0) (bh := bh) (v := vv) (ns := ns) (fa := fa) (pl := pl) (en := en) (so := 0) (plm := mpl) (num := mnu) (wr := mwr) (n1 := n1) (nb := nb) (w := mwo) (p := p2) hT hf he (by decide) with ⟨s', v2, n1', nb', N, pl', num', wr', w', p', q', g1, g2, g3, g4, g5⟩ | ⟨k, z, v2, n1', nb', ns', p', m', q', g1, g2, g3, g4, g5⟩
  · obtain ⟨st, li, b1, b2, b3⟩ := begin_ok n
    obtain ⟨v3, c1, c2⟩ := po_ok t mh (MD T 0 e s' num' 0 wr' w', q') v
    refine Or.inr ⟨p', q', n1', nb', N, (nI e, tkk T e s', nI s', nI (tkb T e s'), v2, n1', nb', nI N, 0, pl'), (nI e, nI (mspot T e s'), mso (tkk T e s'), nI s', num', 0, wr', w'), st, li, v3, g4, g5, rfl, b2, b3, c2, ?_, ?_⟩
    · rw [gX_pier]
      show Option.map _ (f_X10_pier (nI e) x p2 (T, nI f, en, tok, st0, bh, vv, n1, nb, ns, fa, pl) n h 0 1) = _
      rw [hX, g2, Option.bind_some, if_neg one_ne, f_X10_pier_J63, nm]
      show Option.map _ (if (f_X10_refused 0 (0, 0)).1 = 0 then _ else _) = _
      rw [if_pos (by decide), b1, Option.bind_some, nm]
      rfl
    · have h2 : f_X12_pier_f (nI e) t (T, nI f, msz, msp, mso', mpl, mnu, mfa, mwr, mwo) = none := by
        rw [hMf, g3, Option.bind_some]
        exact if_pos (show (0 : Int32) ≤ 0 by decide)
      have h3 : f_X12_pier_o (nI e) t (T, nI f, msz, msp, mso', mpl, mnu, mfa, mwr, mwo) v mh = some (qAn q', (0, 0, -1), MD T 0 e s' num' 0 wr' w', v3, (mh.1, mh.2.1, 0, 0), q') := by
        rw [hMo, g3, Option.bind_some]
        exact (if_pos (show (0 : Int32) ≤ 0 by decide)).trans c1
      exact gMp_o (M := (t, (T, nI f, msz, msp, mso', mpl, mnu, mfa, mwr, mwo), v, w, mh, R2)) hMr h2 h3
  · obtain ⟨d1, d2, d3, d4, d5⟩ := g5
    have hk : ¬ k ≤ (0 : Int32) := by
      rw [fa_le, ltv_0]
      omega
    have hk0 : ¬ m'.2.2.2.2.2.2.2.1 ≤ (0 : Int32) := by
      rw [d4]
      exact hk
    obtain ⟨mT, ma, ms1⟩ := m'
    dsimp only at d1 d2 d3 d4 d5 hk0
    have d1 := d1.symm
    subst d1 d2
    refine Or.inl ⟨k, z, p', (nI e, tkk T e z, nI z, nI (tkb T e z), v2, n1', nb', ns', k, nI z), ms1, g1, g2, rfl, d4, ?_, ?_⟩
    · rw [gX_pier]
      show Option.map _ (f_X10_pier (nI e) x p2 (T, nI f, en, tok, st0, bh, vv, n1, nb, ns, fa, pl) n h 0 1) = _
      rw [hX, g3, Option.bind_some, if_pos rfl, f_X10_pier_J63, nm]
      show Option.map _ (if (f_X10_refused 4 (0, k)).1 = 0 then _ else _) = _
      rw [if_neg (show ¬ (f_X10_refused 4 (0, k)).1 = 0 from one_ne)]
      rfl
    · have h2 : f_X12_pier_f (nI e) t (T, nI f, msz, msp, mso', mpl, mnu, mfa, mwr, mwo) = some ((0, 4, ms1.2.2.2.2.2.2.1), (T, 0, ms1), q') := by
        rw [hMf, g4, Option.bind_some]
        exact if_neg hk0
      have h3 := gMp_f (M := (t, (T, nI f, msz, msp, mso', mpl, mnu, mfa, mwr, mwo), v, w, mh, R2)) (o := o) hMr h2
      dsimp only at h3
      rw [d5] at h3
      exact h3
