/-! the reference's search for seatings ends -/
def wt (j : Nat) : Int := if j = 0 then 10000 else if j = 1 then 1000 else if j = 2 then 100 else if j = 3 then 10 else 1
def sS (s : Nat → Int32) : Int := ((s 0).toInt + 1) * 10000 + ((s 1).toInt + 1) * 1000 + ((s 2).toInt + 1) * 100 + ((s 3).toInt + 1) * 10 + ((s 4).toInt + 1)
theorem wt_pos {j : Nat} : 1 ≤ wt j ∧ wt j ≤ 10000 := by
  unfold wt
  repeat' split
  all_goals omega
theorem wt_lt {i j : Nat} (h : i < j) (hj : j ≤ 4) : 10 * wt j ≤ wt i := by
  unfold wt
  repeat' split
  all_goals omega
theorem sS_upd {s : Nat → Int32} {j : Nat} {v : Int32} (hj : j ≤ 4) : sS (upd s j v) = sS s + (v.toInt - (s j).toInt) * wt j := by
  obtain h | h | h | h | h : j = 0 ∨ j = 1 ∨ j = 2 ∨ j = 3 ∨ j = 4 := by omega
  all_goals
    subst h
    simp only [sS, upd, wt]
    simp
    omega
/-- seats within bounds, but at p, where the last may be met -/
def SB (sp : Int) (s : Nat → Int32) : Prop := ∀ i, i ≤ 4 → -1 ≤ (s i).toInt ∧ (s i).toInt < sp
def SBp (sp : Int) (p : Nat) (s : Nat → Int32) : Prop := ∀ i, i ≤ 4 → -1 ≤ (s i).toInt ∧ (s i).toInt ≤ sp ∧ (¬ i = p → (s i).toInt < sp)
theorem SB_sum {sp : Int} {s : Nat → Int32} (h : SB sp s) (h8 : sp ≤ 8) : 0 ≤ sS s ∧ sS s ≤ 88888 := by
  have a0 := h 0 (by omega)
  have a1 := h 1 (by omega)
  have a2 := h 2 (by omega)
  have a3 := h 3 (by omega)
  have a4 := h 4 (by omega)
  unfold sS
  omega
theorem lastIn_lt {k1 : Int32} : ∀ (n : Nat) (v r : Int32), -1 ≤ v.toInt → v.toInt ≤ 10 → f_X12_lastIn_L4 k1 n v = some r → r.toInt ≤ v.toInt := by
  intro n
  induction n with
  | zero => intro v r _ _ h; rw [f_X12_lastIn_L4] at h; cases h
  | succ n ih =>
    intro v r h1 h2 h
    rw [f_X12_lastIn_L4] at h
    by_cases c : v < 0
    · rw [if_pos c, f_X12_lastIn_J22] at h
      cases h
      omega
    · rw [if_neg c] at h
      rw [fa_lt, ltv_0] at c
      unfold nm at h
      dsimp only at h
      by_cases d : f_X12_bit k1 v = 0
      · rw [if_pos d] at h
        have e := iadd_t (x := v) (y := -1) (by rw [show (-1 : Int32).toInt = -1 from by decide]; omega) (by rw [show (-1 : Int32).toInt = -1 from by decide]; omega)
        rw [show (-1 : Int32).toInt = -1 from by decide] at e
        have q := ih (v + -1) r (by omega) (by omega) h
        omega
      · rw [if_neg d, f_X12_lastIn_J22] at h
        cases h
        omega
theorem lastIn_le {k1 k2 r : Int32} (h0 : 0 ≤ k2.toInt) (h4 : k2.toInt ≤ 4) (h : f_X12_lastIn k1 k2 = some r) : r.toInt < k2.toInt := by
  rw [f_X12_lastIn] at h
  have e := isub_t (x := k2) (y := 1) (by rw [ltv_1]; omega) (by rw [ltv_1]; omega)
  rw [ltv_1] at e
  have q := lastIn_lt FU _ r (by omega) (by omega) h
  omega
theorem clamp {x : Int32} {j : Nat} (h : x.toInt = (j : Int)) : x.toNatClampNeg = j := by
  have e : x.toNatClampNeg = x.toInt.toNat := rfl
  rw [e, h]
  exact Int.toNat_natCast j
section SE
variable {k1 : Int32} {q_q : TX11_q} {K : TX12_z → Int32 → Option TX12_z} {N : Nat}
/-- what the search asks of its next step -/
def NX (sp : Int) (K : TX12_z → Int32 → Option TX12_z) (N : Nat) : Prop := ∀ (z : TX12_z) (l : Int32), 0 < N → SB sp z.1 → -1 ≤ l.toInt → l.toInt ≤ 5 → (∀ j : Nat, l.toInt = (j : Int) → j ≤ 4 → 200000 - (sS z.1 + wt j) < (N : Int)) → TotP (K z l) (fun (r : TX12_z) => True)
theorem seats_L161 {v : Int32} (z0 : TX12_z) (hk : ∀ z : TX12_z, z.1 = z0.1 → TotP (f_X12_seats_J187 K v z) (fun (r : TX12_z) => True)) : ∀ (n : Nat) (i : Int32) (z : TX12_z), z.1 = z0.1 → 0 ≤ i.toInt → i.toInt ≤ 5 → 5 - i.toInt < (n : Int) → TotP (f_X12_seats_L161 K v n i z) (fun (r : TX12_z) => True) := by
  intro n
  induction n with
  | zero => intro i z _ _ h5 h; omega
  | succ n ih =>
    intro i z hz h0 h5 h
    rw [f_X12_seats_L161]
    refine tp_if (fun _ => hk z hz) (fun c => ?_)
    rw [fa_le, show (5 : Int32).toInt = 5 from by decide] at c
    have e := iadd_t (x := i) (y := 1) (by rw [ltv_1]; omega) (by rw [ltv_1]; omega)
    rw [ltv_1] at e
    have g : R32 0 4 i := ⟨h0, by omega⟩
    refine tp_g g (by decide) (by decide) ?_
    refine tp_g g (by decide) (by decide) ?_
    exact ih _ _ hz (by omega) (by omega) (by omega)
theorem SBp_sum {sp : Int} {p : Nat} {s : Nat → Int32} (h : SBp sp p s) (h8 : sp ≤ 8) : sS s ≤ 99999 := by
  have a0 := h 0 (by omega)
  have a1 := h 1 (by omega)
  have a2 := h 2 (by omega)
  have a3 := h 3 (by omega)
  have a4 := h 4 (by omega)
  unfold sS
  omega
theorem upd_at {s : Nat → Int32} {j : Nat} {v : Int32} : upd s j v j = v := by
  unfold upd
  simp
theorem upd_no {s : Nat → Int32} {i j : Nat} {v : Int32} (h : ¬ i = j) : upd s j v i = s i := by
  unfold upd
  simp [h]
theorem seats_J99 (hk1 : R32 1 31 k1) (hsp : R32 2 8 q_q.1) (hK : NX q_q.1.toInt K N) {v : Int32} {p : Nat} (hv : v.toInt = (p : Int)) (hp : p ≤ 4) {z : TX12_z} {C e : Int} (hb : SBp q_q.1.toInt p z.1) (hs : sS z.1 = C + ((z.1 p).toInt + 1) * wt p) (he : e + 1 ≤ (z.1 p).toInt) (he8 : e + 1 ≤ q_q.1.toInt) (hN : 200000 - (C + (e + 1) * wt p + wt p) < ((N + 1 : Nat) : Int)) : TotP (f_X12_seats_J99 k1 q_q K v z) (fun (r : TX12_z) => True) := by
  obtain ⟨s1, s2⟩ := hsp
  have hc := clamp hv
  have w1 := (wt_pos (j := p)).1
  have m : (e + 1 + 1) * wt p ≤ ((z.1 p).toInt + 1) * wt p := Int.mul_le_mul_of_nonneg_right (by omega) (by omega)
  have m2 : (e + 1 + 1) * wt p = (e + 1) * wt p + wt p := by rw [Int.add_mul (e + 1) 1, Int.one_mul]
  have bs := SBp_sum hb s2
  have n0 : 0 < N := by omega
  have g : R32 0 4 v := ⟨by omega, by omega⟩
  unfold f_X12_seats_J99
  refine tp_b (t_f_X12_nextIn hk1 (r_add (l := 1) (h := 5) g (r_n (x := (1 : Int32)) (l := 1) (h := 1) (by decide) (by decide)) (by decide) (by decide) (by decide) (by decide) |> fun h => r_w (l' := 0) (h' := 5) h (by decide) (by decide))) (fun o ho => ?_)
  refine tp_g g (by decide) (by decide) ?_
  rw [hc]
  refine tp_if (fun c => ?_) (fun c => ?_)
  · rw [fa_lt] at c
    have hB : SB q_q.1.toInt z.1 := by
      intro i hi
      have a := hb i hi
      by_cases d : i = p
      · subst d
        exact ⟨a.1, c⟩
      · exact ⟨a.1, a.2.2 d⟩
    have go : ∀ (z' : TX12_z) (l : Int32), z'.1 = z.1 → -1 ≤ l.toInt → l.toInt ≤ 5 → TotP (K z' l) (fun (r : TX12_z) => True) := by
      intro z' l ez l1 l2
      refine hK z' l n0 (by rw [ez]; exact hB) l1 l2 (fun j _ hj => ?_)
      rw [ez]
      have wj := (wt_pos (j := j)).1
      omega
    have j187 : ∀ z' : TX12_z, z'.1 = z.1 → TotP (f_X12_seats_J187 K v z') (fun (r : TX12_z) => True) := by
      intro z' ez
      rw [f_X12_seats_J187, f_X12_seats_J197]
      exact go _ _ ez (by omega) (by omega)
    refine tp_if (fun _ => ?_) (fun _ => ?_)
    · refine tp_if (fun _ => ?_) (fun _ => j187 z rfl)
      exact seats_L161 z j187 FU 0 z rfl (by decide) (by decide) (by unfold FU; decide)
    · rw [f_X12_seats_J197]
      exact go z o rfl (by have := ho.1; omega) ho.2
  · rw [fa_lt] at c
    refine tp_g g (by decide) (by decide) ?_
    refine tp_be (t_f_X12_lastIn hk1 g) (fun r er hr => ?_)
    have lt := lastIn_le (by omega) (by omega) er
    rw [f_X12_seats_J197]
    have u1 : sS (upd z.1 p (-1)) = C := by
      rw [sS_upd hp, hs, show ((-1 : Int32)).toInt = -1 from by decide]
      have t : (-1 - (z.1 p).toInt) * wt p = -(((z.1 p).toInt + 1) * wt p) := by
        rw [← Int.neg_mul]
        congr 1
        omega
      omega
    refine hK _ r n0 ?_ hr.1 (by have := hr.2; omega) (fun j ej hj => ?_)
    · intro i hi
      have a := hb i hi
      by_cases d : i = p
      · subst d
        show -1 ≤ (upd z.1 i (-1) i).toInt ∧ (upd z.1 i (-1) i).toInt < q_q.1.toInt
        rw [upd_at, show ((-1 : Int32)).toInt = -1 from by decide]
        omega
      · show -1 ≤ (upd z.1 p (-1) i).toInt ∧ (upd z.1 p (-1) i).toInt < q_q.1.toInt
        rw [upd_no d]
        exact ⟨a.1, a.2.2 d⟩
    · show 200000 - (sS (upd z.1 p (-1)) + wt j) < (N : Int)
      rw [u1]
      have w2 := wt_lt (i := j) (j := p) (by omega) hp
      have m3 : (e + 1 + 1) * wt p ≤ 9 * wt p := Int.mul_le_mul_of_nonneg_right (by omega) (by omega)
      omega
theorem seats_L61 (hk1 : R32 1 31 k1) (hsp : R32 2 8 q_q.1) (q1 : R32 (1) (9) q_q.2.1) (q2 : R32 (1) (4) q_q.2.2.2.2.1) (q3 : R32 (0) (5) q_q.2.2.2.2.2.1) (q4 : R32 (0) (6) q_q.2.2.2.2.2.2.1) (q5 : R32 (0) (6) q_q.2.2.2.2.2.2.2.1) (hK : NX q_q.1.toInt K N) {v : Int32} {p : Nat} (hv : v.toInt = (p : Int)) (hp : p ≤ 4) {C e : Int} (he8 : e + 1 ≤ q_q.1.toInt) (hN : 200000 - (C + (e + 1) * wt p + wt p) < ((N + 1 : Nat) : Int)) : ∀ (n : Nat) (z : TX12_z), SBp q_q.1.toInt p z.1 → sS z.1 = C + ((z.1 p).toInt + 1) * wt p → e + 1 ≤ (z.1 p).toInt → q_q.1.toInt - (z.1 p).toInt < (n : Int) → TotP (f_X12_seats_L61 k1 q_q K v n z) (fun (r : TX12_z) => True) := by
  have hc := clamp hv
  have g : R32 0 4 v := ⟨by omega, by omega⟩
  intro n
  induction n with
  | zero =>
    intro z hb hs he hm
    have a := (hb p hp).2.1
    omega
  | succ n ih =>
    intro z hb hs he hm
    rw [f_X12_seats_L61]
    refine tp_g g (by decide) (by decide) ?_
    refine tp_if (fun _ => seats_J99 hk1 hsp hK hv hp hb hs he he8 hN) (fun c => ?_)
    rw [hc, fa_le] at c
    refine tp_b (t_f_X12_isSeat hk1 g hsp q1 q2 q3 q4 q5) (fun o _ => ?_)
    refine tp_if (fun _ => ?_) (fun _ => seats_J99 hk1 hsp hK hv hp hb hs he he8 hN)
    refine tp_g g (by decide) (by decide) ?_
    refine tp_g g (by decide) (by decide) ?_
    rw [hc]
    have a := hb p hp
    have s2 := hsp.2
    have e1 := iadd_t (x := z.1 p) (y := 1) (by rw [ltv_1]; omega) (by rw [ltv_1]; omega)
    rw [ltv_1] at e1
    refine ih _ ?_ ?_ ?_ ?_
    · intro i hi
      have b := hb i hi
      show -1 ≤ (upd z.1 p (z.1 p + 1) i).toInt ∧ (upd z.1 p (z.1 p + 1) i).toInt ≤ q_q.1.toInt ∧ (¬ i = p → (upd z.1 p (z.1 p + 1) i).toInt < q_q.1.toInt)
      by_cases d : i = p
      · subst d
        rw [upd_at]
        exact ⟨by omega, by omega, fun h => (h rfl).elim⟩
      · rw [upd_no d]
        exact b
    · show sS (upd z.1 p (z.1 p + 1)) = C + ((upd z.1 p (z.1 p + 1) p).toInt + 1) * wt p
      rw [sS_upd hp, upd_at, e1, hs]
      have t : ((z.1 p).toInt + 1 - (z.1 p).toInt) = 1 := by omega
      rw [t, Int.one_mul, Int.add_mul ((z.1 p).toInt + 1) 1, Int.one_mul]
      omega
    · show e + 1 ≤ (upd z.1 p (z.1 p + 1) p).toInt
      rw [upd_at, e1]
      omega
    · show q_q.1.toInt - (upd z.1 p (z.1 p + 1) p).toInt < (n : Int)
      rw [upd_at, e1]
      omega
theorem seats_L42 (hk1 : R32 1 31 k1) (hsp : R32 2 8 q_q.1) (q1 : R32 (1) (9) q_q.2.1) (q2 : R32 (1) (4) q_q.2.2.2.2.1) (q3 : R32 (0) (5) q_q.2.2.2.2.2.1) (q4 : R32 (0) (6) q_q.2.2.2.2.2.2.1) (q5 : R32 (0) (6) q_q.2.2.2.2.2.2.2.1) : ∀ n : Nat, NX q_q.1.toInt (f_X12_seats_L42 k1 q_q n) n := by
  intro n
  induction n with
  | zero => intro z l h; omega
  | succ n ih =>
    intro z l _ hb l1 l2 hm
    rw [f_X12_seats_L42]
    refine tp_if (fun _ => tp_s trivial) (fun c => ?_)
    refine tp_if (fun _ => tp_s trivial) (fun d => ?_)
    rw [fa_lt, ltv_0] at c
    rw [fa_le, show (5 : Int32).toInt = 5 from by decide] at d
    have g : R32 0 4 l := ⟨by omega, by omega⟩
    obtain ⟨p, hv⟩ : ∃ p : Nat, l.toInt = (p : Int) := ⟨l.toInt.toNat, by omega⟩
    have hp : p ≤ 4 := by omega
    have hc := clamp hv
    have m := hm p hv hp
    refine tp_g g (by decide) (by decide) ?_
    refine tp_g g (by decide) (by decide) ?_
    rw [hc]
    have a := hb p hp
    have s2 := hsp.2
    have e1 := iadd_t (x := z.1 p) (y := 1) (by rw [ltv_1]; omega) (by rw [ltv_1]; omega)
    rw [ltv_1] at e1
    refine seats_L61 hk1 hsp q1 q2 q3 q4 q5 ih hv hp (C := sS z.1 - ((z.1 p).toInt + 1) * wt p) (e := (z.1 p).toInt) (by omega) (by omega) FU _ ?_ ?_ ?_ ?_
    · intro i hi
      have b := hb i hi
      show -1 ≤ (upd z.1 p (z.1 p + 1) i).toInt ∧ (upd z.1 p (z.1 p + 1) i).toInt ≤ q_q.1.toInt ∧ (¬ i = p → (upd z.1 p (z.1 p + 1) i).toInt < q_q.1.toInt)
      by_cases d : i = p
      · subst d
        rw [upd_at]
        exact ⟨by omega, by omega, fun h => (h rfl).elim⟩
      · rw [upd_no d]
        exact ⟨b.1, by omega, fun _ => b.2⟩
    · show sS (upd z.1 p (z.1 p + 1)) = sS z.1 - ((z.1 p).toInt + 1) * wt p + ((upd z.1 p (z.1 p + 1) p).toInt + 1) * wt p
      rw [sS_upd hp, upd_at, e1]
      have t : ((z.1 p).toInt + 1 - (z.1 p).toInt) = 1 := by omega
      rw [t, Int.one_mul, Int.add_mul ((z.1 p).toInt + 1) 1, Int.one_mul]
      omega
    · show (z.1 p).toInt + 1 ≤ (upd z.1 p (z.1 p + 1) p).toInt
      rw [upd_at, e1]
      omega
    · show q_q.1.toInt - (upd z.1 p (z.1 p + 1) p).toInt < ((FU : Nat) : Int)
      rw [upd_at, e1]
      unfold FU
      omega
theorem seats_L7 (hk1 : R32 1 31 k1) (hsp : R32 2 8 q_q.1) (q1 : R32 (1) (9) q_q.2.1) (q2 : R32 (1) (4) q_q.2.2.2.2.1) (q3 : R32 (0) (5) q_q.2.2.2.2.2.1) (q4 : R32 (0) (6) q_q.2.2.2.2.2.2.1) (q5 : R32 (0) (6) q_q.2.2.2.2.2.2.2.1) : ∀ (n : Nat) (i : Int32) (z : TX12_z) (j : Nat), i.toInt = (j : Int) → j ≤ 5 → (∀ x, x < j → z.1 x = -1) → 5 - i.toInt < (n : Int) → TotP (f_X12_seats_L7 k1 q_q n i z) (fun (r : TX12_z) => True) := by
  intro n
  induction n with
  | zero => intro i z j _ _ _ h; omega
  | succ n ih =>
    intro i z j hi hj hz h
    rw [f_X12_seats_L7]
    refine tp_if (fun c => ?_) (fun c => ?_)
    · rw [fa_le, show (5 : Int32).toInt = 5 from by decide] at c
      have hB : SB q_q.1.toInt z.1 := by
        intro x hx
        rw [hz x (by omega), show ((-1 : Int32)).toInt = -1 from by decide]
        have := hsp.1
        omega
      have bs := SB_sum hB hsp.2
      refine tp_b (t_f_X12_nextIn hk1 (r_n (x := (0 : Int32)) (l := 0) (h := 5) (by decide) (by decide))) (fun o ho => ?_)
      have go : ∀ z' : TX12_z, z'.1 = z.1 → TotP (f_X12_seats_L42 k1 q_q FU z' o) (fun (r : TX12_z) => True) := by
        intro z' ez
        refine seats_L42 hk1 hsp q1 q2 q3 q4 q5 FU z' o (by unfold FU; omega) (by rw [ez]; exact hB) (by have := ho.1; omega) ho.2 (fun j' _ hj' => ?_)
        rw [ez]
        have w1 := (wt_pos (j := j')).1
        unfold FU
        omega
      exact tp_if (fun _ => go _ rfl) (fun _ => go _ rfl)
    · rw [fa_le, show (5 : Int32).toInt = 5 from by decide] at c
      have g : R32 0 4 i := ⟨by omega, by omega⟩
      refine tp_g g (by decide) (by decide) ?_
      have e1 := iadd_t (x := i) (y := 1) (by rw [ltv_1]; omega) (by rw [ltv_1]; omega)
      rw [ltv_1] at e1
      rw [clamp hi]
      refine ih _ _ (j + 1) (by omega) (by omega) (fun x hx => ?_) (by omega)
      show upd z.1 j (-1) x = -1
      by_cases d : x = j
      · subst d
        exact upd_at
      · rw [upd_no d]
        exact hz x (by omega)
end SE
theorem t_f_X12_seats {k1 : Int32} {m_z : TX12_z} {q_q : TX11_q} (h_k1 : R32 (1) (31) k1) (h_q_q_1 : R32 (2) (8) q_q.1) (h_q_q_2_1 : R32 (1) (9) q_q.2.1) (h_q_q_2_2_2_2_1 : R32 (1) (4) q_q.2.2.2.2.1) (h_q_q_2_2_2_2_2_1 : R32 (0) (5) q_q.2.2.2.2.2.1) (h_q_q_2_2_2_2_2_2_1 : R32 (0) (6) q_q.2.2.2.2.2.2.1) (h_q_q_2_2_2_2_2_2_2_1 : R32 (0) (6) q_q.2.2.2.2.2.2.2.1) : TotP (f_X12_seats k1 m_z q_q) (fun (r : TX12_z) => True) := by
  unfold f_X12_seats
  exact seats_L7 h_k1 h_q_q_1 h_q_q_2_1 h_q_q_2_2_2_2_1 h_q_q_2_2_2_2_2_1 h_q_q_2_2_2_2_2_2_1 h_q_q_2_2_2_2_2_2_2_1 FU 0 _ 0 (by decide) (by omega) (fun x hx => by omega) (by unfold FU; decide)
