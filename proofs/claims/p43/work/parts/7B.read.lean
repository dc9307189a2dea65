/-! a whole text -/
def RdEnd (T : Nat → Int32) (fed a : Int32) (e : Nat) (x : Option (Int32 × TX7_r × TX6_p)) (y : Option (TX12_s × TX11_q)) : Prop :=
  (∃ s v n1 nb N pl num wr w p' q', s ≤ e ∧ x = some (1, RD T fed e s (v, n1, nb, nI N, 0, pl), p') ∧ y = some (MD T a e s num 0 wr w, q') ∧ PR p' q' n1 nb N ∧ ¬ qBa q' = 0) ∨ LNo T fed a e x y
section RL
variable {T : Nat → Int32} {fed a : Int32} {e : Nat}
theorem d_J31 {m : TX12_s} {q : TX11_q} (h : m.2.2.2.2.1 = 5) : f_X12_readAll_J31 q m = some (m, q) := by
  rw [f_X12_readAll_J31, nm, d_flaw h, ite_self]
theorem d_L2 {m : TX12_s} {q : TX11_q} {n : Nat} (h : m.2.2.2.2.1 = 5) : f_X12_readAll_L2 (n + 1) 0 m q = some (m, q) := by
  rw [f_X12_readAll_L2, if_pos rfl, if_neg (by rw [h]; decide), nm, d_flaw h, d_J31 h]
theorem read_loop (hT : ∀ j, byt (T j)) (he : e ≤ 900) : ∀ (k s line fx fm : Nat) (v pl num wr : Int32) (n1 : Nat → Int64) (nb : Nat → Int32) (N : Nat) (w : Int64) (p : TX6_p) (q : TX11_q), e - s < k → s ≤ e → line ≤ s → k < fx → k + 1 < fm → MW T e s num w → PR p q n1 nb N → RdEnd T fed a e (f_X7_read_L47 fx (nI line) p (RD T fed e s (v, n1, nb, nI N, 0, pl))) (f_X12_readAll_L2 fm 1 (MD T a e s num 0 wr w) q) := by
  intro k
  induction k with
  | zero => intro s line fx fm v pl num wr n1 nb N w p q h; omega
  | succ k ih =>
    intro s line fx fm v pl num wr n1 nb N w p q h1 hs hl hfx hfm hm hR
    obtain ⟨fx, rfl⟩ : ∃ i, fx = i + 1 := ⟨fx - 1, by omega⟩
    obtain ⟨fm, rfl⟩ : ∃ i, fm = i + 1 + 1 := ⟨fm - 2, by omega⟩
    rw [f_X7_read_L47, if_neg (show ¬ (RD T fed e s (v, n1, nb, nI N, 0, pl)).2.2.1 < nI line from nI_nlt (by omega) (by omega)), f_X12_readAll_L2, if_neg (show ¬ (1 : Int32) = 0 from by decide)]
    rcases line_all (fed := fed) (a := a) (v := v) (pl := pl) (wr := wr) hT he hs hm hR with ⟨s', v', n1', nb', N', pl', num', wr', w', p', q', g1, g2, g3, g4, g5, g6⟩ | ⟨kk, z, v', n1', nb', ns', p', m', q', g1, g2, g3, g4, g5⟩
    · rw [g3, g4, Option.bind_some, Option.bind_some, if_neg one_ne]
      dsimp only
      have g6' := g6
      obtain ⟨ba, as, an, bi, hc, -⟩ := g6
      obtain ⟨c1, c2, c3, -⟩ := hc
      by_cases k0 : tkk T e s' = 0
      · rw [if_pos (show (RD T fed e s' (v', n1', nb', nI N', 0, pl')).2.2.2.1 = 0 from k0), f_X12_eatsSemicolon, if_neg (show ¬ (MD T a e s' num' 0 wr' w').2.2.2.2.1 = 4 from fun z => by have := mso_4.mp z; rw [k0] at this; exact absurd this (by decide)), f_X12_eatsSemicolon_J13, if_pos rfl, f_X12_eatsSemicolon_J22, Option.bind_some, f_X12_readAll_L2, if_pos rfl, if_pos (show (MD T a e s' num' 0 wr' w').2.2.2.2.1 = 1 from mso_1.mpr k0), f_X12_readAll_J31, show p'.2.2.2.2.1 = nI ba from c1, show q'.2.2.2.2.1 = nI ba from c2]
        by_cases b0 : ba = 0
        · subst b0
          rw [if_neg (show ¬ (0 : Int32) < nI 0 from by decide), nm, x_fail, if_pos (show nI 0 = (0 : Int32) from rfl), nm]
          exact Or.inr ⟨6, s', v', n1', nb', nI N', p', _, q', by decide, g2, rfl, rfl, m_flaw⟩
        · have bne : ¬ nI ba = (0 : Int32) := fun z => b0 ((nI_eq (b := 0) (by omega) (by omega)).mp z)
          rw [if_pos (show (0 : Int32) < nI ba from nI_lt (a := 0) (by omega) (by omega)), if_neg bne]
          exact Or.inl ⟨s', v', n1', nb', N', pl', num', wr', w', p', q', g2, rfl, rfl, g6', fun z => bne (c2.symm.trans z)⟩
      · rw [if_neg (show ¬ (RD T fed e s' (v', n1', nb', nI N', 0, pl')).2.2.2.1 = 0 from k0)]
        by_cases k3 : tkk T e s' = 3
        · obtain ⟨u1, u2, u3⟩ := tk_semi k3
          have hn := @tks_le T e (tkb T e s') (by omega)
          have hlt : s' < nxt T e s' ∧ nxt T e s' ≤ e := by unfold nxt; omega
          obtain ⟨num2, w2, y1, y2⟩ := m_adv (a := a) (num := num') (fa := 0) (wr := wr') (w := w') hT he g2 (by rw [k3]; decide)
          rw [if_pos (show (RD T fed e s' (v', n1', nb', nI N', 0, pl')).2.2.2.1 = 3 from k3), x_adv he g2, Option.bind_some, f_X12_eatsSemicolon, if_pos (show (MD T a e s' num' 0 wr' w').2.2.2.2.1 = 4 from mso_4.mpr k3), f_X12_eatsSemicolon_J13, if_neg one_ne, y1, Option.bind_some, f_X12_eatsSemicolon_J22, Option.bind_some, nIs]
          exact ih (nxt T e s') (line + 1) fx (fm + 1) v' pl' num2 wr' n1' nb' N' w2 p' q' (by omega) hlt.2 (by omega) (by omega) (by omega) y2 g6'
        · have hd := @m_flaw T a 1 num' 0 wr' w' e s'
          rw [if_neg (show ¬ (RD T fed e s' (v', n1', nb', nI N', 0, pl')).2.2.2.1 = 3 from k3), nm, x_fail, f_X12_eatsSemicolon, if_neg (show ¬ (MD T a e s' num' 0 wr' w').2.2.2.2.1 = 4 from fun z => k3 (mso_4.mp z)), f_X12_eatsSemicolon_J13, if_pos rfl, f_X12_eatsSemicolon_J22, Option.bind_some, f_X12_readAll_L2, if_pos rfl, if_neg (show ¬ (MD T a e s' num' 0 wr' w').2.2.2.2.1 = 1 from fun z => k0 (mso_1.mp z)), nm, d_J31 hd.2.2.1]
          exact Or.inr ⟨1, s', v', n1', nb', nI N', p', _, q', by decide, g2, rfl, rfl, hd⟩
    · rw [g3, g4, Option.bind_some, Option.bind_some, if_pos rfl, d_eats g5.2.2.1, Option.bind_some, d_L2 g5.2.2.1]
      exact Or.inr ⟨kk, z, v', n1', nb', ns', p', m', q', g1, g2, rfl, rfl, g5⟩
/-- a fresh pier of the reference -/
def q0 : TX11_q := (0, 0, 0, 0, 0, 0, 0, 0, -1, 0, fun _ => 0, fun _ => 0, fun _ => 0, fun _ => 0, fun _ => 0, fun _ => 0, fun _ => 0, fun _ => 0, fun _ => 0, fun _ => 0, fun _ => 0, fun _ => 0, fun _ => 0, fun _ => 0)
theorem pr_0 {p : TX6_p} {n1 : Nat → Int64} {nb : Nat → Int32} : PR (f_X6_clear p) q0 n1 nb 0 := by
  refine ⟨0, 0, 0, 0, ⟨rfl, rfl, by omega, rfl, rfl, by omega, rfl, rfl, by omega, rfl, rfl, by omega, rfl, rfl⟩, ⟨rfl, rfl, rfl, by decide, fun h => absurd h (by omega), Or.inl ⟨rfl, rfl, rfl, rfl⟩⟩, ⟨fun j hj => absurd hj (by omega), fun j hj => absurd hj (by omega)⟩, fun j hj => absurd hj (by omega), fun j hj => absurd hj (by omega), fun j hj => absurd hj (by omega)⟩
theorem read_all {f n : Nat} {tok st bh v ns fa pl en so plm num wr : Int32} {n1 : Nat → Int64} {nb : Nat → Int32} {w : Int64} {p : TX6_p} (hT : ∀ j, byt (T j)) (hf : f ≤ 900) (hn : n ≤ f) (hso : ¬ so = 5) : RdEnd T 0 a n (f_X7_read (nI n) (T, nI f, en, tok, st, bh, v, n1, nb, ns, fa, pl) p) ((f_X12_goesOn (T, a, nI n, 0, so, plm, num, 0, wr, w)).bind (fun (o : TX12_s) => f_X12_readAll o q0)) := by
  have hmin : imin (nI n) (nI f) = nI n := by
    unfold imin
    rw [if_neg (nI_nlt (by omega) (by omega))]
  rw [f_X7_read, nm, nm]
  dsimp only
  rw [hmin]
  have h1 := x_advance (T := T) (fed := 0) (tok := tok) (st := st) (tl := (v, n1, nb, 0, 0, -1)) (e := n) (i := 0) (by omega) (by omega)
  rw [nI_0] at h1
  have h2 := m_goesOn (T := T) (a := a) (so := so) (pl := plm) (num := num) (fa := 0) (wr := wr) (w := w) (e := n) (i := 0) hT (by omega) (by omega) hso
  rw [nI_0] at h2
  rw [h1, h2, Option.bind_some, Option.bind_some, f_X12_readAll]
  have hs := @tks_le T n 0 (by omega)
  have := read_loop (fed := 0) (a := a) hT (show n ≤ 900 by omega) (n + 1) (tks T n 0) 0 FU FU v (-1) (mnum T n (tks T n 0) num) wr n1 nb 0 (mword T n (tks T n 0) w) (f_X6_clear p) q0 (by omega) hs.2 (by omega) (by unfold FU; omega) (by unfold FU; omega) mw_new pr_0
  rw [nI_0] at this
  exact this
end RL
